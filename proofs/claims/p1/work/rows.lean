section
-- ===== PART A: goes FIRST, ahead of the names: the tables' words, and 'selects' of the private methods out of them =====
/-- a private method of a class that the tables say can be made, by its rows of tables_1 -/
def lw_okq (q : MethodName × Nat) : Prop := (q.1.cls ≠ "java/lang/invoke/MethodHandle" ∧ q.1.cls ≠ "java/lang/invoke/VarHandle") ∧ Cond.instantiable q.1.cls q.2 ∈ tables_1 ∧ Cond.privateMethod q.1 ∈ tables_1 ∧ Cond.instanceMethod q.1 ∈ tables_1
theorem lw_p0 : lw_okq (⟨"LanternState$Scene", "clear", "()V"⟩, 18) := ⟨⟨by decide +kernel, by decide +kernel⟩, List.mem_of_getElem? (i := 142) (by decide +kernel), List.mem_of_getElem? (i := 523) (by decide +kernel), List.mem_of_getElem? (i := 524) (by decide +kernel)⟩
theorem lw_p1 : lw_okq (⟨"LanternState$Tape", "at", "(I)I"⟩, 12) := ⟨⟨by decide +kernel, by decide +kernel⟩, List.mem_of_getElem? (i := 33) (by decide +kernel), List.mem_of_getElem? (i := 531) (by decide +kernel), List.mem_of_getElem? (i := 532) (by decide +kernel)⟩
theorem lw_p2 : lw_okq (⟨"LanternState$Tape", "readRun", "()V"⟩, 12) := ⟨⟨by decide +kernel, by decide +kernel⟩, List.mem_of_getElem? (i := 33) (by decide +kernel), List.mem_of_getElem? (i := 535) (by decide +kernel), List.mem_of_getElem? (i := 536) (by decide +kernel)⟩
theorem lw_p3 : lw_okq (⟨"LanternState$Scene", "readLine", "(LLanternState$Tape;)Z"⟩, 18) := ⟨⟨by decide +kernel, by decide +kernel⟩, List.mem_of_getElem? (i := 142) (by decide +kernel), List.mem_of_getElem? (i := 539) (by decide +kernel), List.mem_of_getElem? (i := 540) (by decide +kernel)⟩
theorem lw_p4 : lw_okq (⟨"LanternState$Scene", "readSlide", "(LLanternState$Tape;)Z"⟩, 18) := ⟨⟨by decide +kernel, by decide +kernel⟩, List.mem_of_getElem? (i := 142) (by decide +kernel), List.mem_of_getElem? (i := 543) (by decide +kernel), List.mem_of_getElem? (i := 544) (by decide +kernel)⟩
theorem lw_p5 : lw_okq (⟨"LanternState$Scene", "isTold", "(J)Z"⟩, 18) := ⟨⟨by decide +kernel, by decide +kernel⟩, List.mem_of_getElem? (i := 142) (by decide +kernel), List.mem_of_getElem? (i := 557) (by decide +kernel), List.mem_of_getElem? (i := 558) (by decide +kernel)⟩
theorem lw_p6 : lw_okq (⟨"LanternState$Scene", "readHearer", "(LLanternState$Tape;)Z"⟩, 18) := ⟨⟨by decide +kernel, by decide +kernel⟩, List.mem_of_getElem? (i := 142) (by decide +kernel), List.mem_of_getElem? (i := 580) (by decide +kernel), List.mem_of_getElem? (i := 581) (by decide +kernel)⟩
theorem lw_p7 : lw_okq (⟨"LanternState$Scene", "readCell", "(LLanternState$Tape;[I)Z"⟩, 18) := ⟨⟨by decide +kernel, by decide +kernel⟩, List.mem_of_getElem? (i := 142) (by decide +kernel), List.mem_of_getElem? (i := 588) (by decide +kernel), List.mem_of_getElem? (i := 589) (by decide +kernel)⟩
theorem lw_p8 : lw_okq (⟨"LanternState$Scene", "takeHearer", "(LLanternState$Tape;)I"⟩, 18) := ⟨⟨by decide +kernel, by decide +kernel⟩, List.mem_of_getElem? (i := 142) (by decide +kernel), List.mem_of_getElem? (i := 592) (by decide +kernel), List.mem_of_getElem? (i := 593) (by decide +kernel)⟩
theorem lw_p9 : lw_okq (⟨"LanternState$Scene", "readNear", "(LLanternState$Tape;)Z"⟩, 18) := ⟨⟨by decide +kernel, by decide +kernel⟩, List.mem_of_getElem? (i := 142) (by decide +kernel), List.mem_of_getElem? (i := 599) (by decide +kernel), List.mem_of_getElem? (i := 600) (by decide +kernel)⟩
theorem lw_p10 : lw_okq (⟨"LanternState$Scene", "readAfter", "(LLanternState$Tape;)Z"⟩, 18) := ⟨⟨by decide +kernel, by decide +kernel⟩, List.mem_of_getElem? (i := 142) (by decide +kernel), List.mem_of_getElem? (i := 603) (by decide +kernel), List.mem_of_getElem? (i := 604) (by decide +kernel)⟩
theorem lw_p11 : lw_okq (⟨"LanternState$Scene", "readSetting", "(LLanternState$Tape;III)Z"⟩, 18) := ⟨⟨by decide +kernel, by decide +kernel⟩, List.mem_of_getElem? (i := 142) (by decide +kernel), List.mem_of_getElem? (i := 611) (by decide +kernel), List.mem_of_getElem? (i := 612) (by decide +kernel)⟩
theorem lw_p12 : lw_okq (⟨"LanternState", "closeText", "()V"⟩, 17) := ⟨⟨by decide +kernel, by decide +kernel⟩, List.mem_of_getElem? (i := 25) (by decide +kernel), List.mem_of_getElem? (i := 623) (by decide +kernel), List.mem_of_getElem? (i := 624) (by decide +kernel)⟩
theorem lw_p13 : lw_okq (⟨"LanternState", "isSlide", "(I)Z"⟩, 17) := ⟨⟨by decide +kernel, by decide +kernel⟩, List.mem_of_getElem? (i := 25) (by decide +kernel), List.mem_of_getElem? (i := 650) (by decide +kernel), List.mem_of_getElem? (i := 651) (by decide +kernel)⟩
theorem lw_p14 : lw_okq (⟨"LanternState", "isHearer", "(I)Z"⟩, 17) := ⟨⟨by decide +kernel, by decide +kernel⟩, List.mem_of_getElem? (i := 25) (by decide +kernel), List.mem_of_getElem? (i := 678) (by decide +kernel), List.mem_of_getElem? (i := 679) (by decide +kernel)⟩
theorem lw_p15 : lw_okq (⟨"LanternState$State", "whyNotShow", "(LLanternState$Scene;I)I"⟩, 11) := ⟨⟨by decide +kernel, by decide +kernel⟩, List.mem_of_getElem? (i := 232) (by decide +kernel), List.mem_of_getElem? (i := 700) (by decide +kernel), List.mem_of_getElem? (i := 701) (by decide +kernel)⟩
def lw_privs_1 : List (MethodName × Nat) := [(⟨"LanternState$Scene", "clear", "()V"⟩, 18), (⟨"LanternState$Tape", "at", "(I)I"⟩, 12), (⟨"LanternState$Tape", "readRun", "()V"⟩, 12), (⟨"LanternState$Scene", "readLine", "(LLanternState$Tape;)Z"⟩, 18), (⟨"LanternState$Scene", "readSlide", "(LLanternState$Tape;)Z"⟩, 18), (⟨"LanternState$Scene", "isTold", "(J)Z"⟩, 18), (⟨"LanternState$Scene", "readHearer", "(LLanternState$Tape;)Z"⟩, 18), (⟨"LanternState$Scene", "readCell", "(LLanternState$Tape;[I)Z"⟩, 18), (⟨"LanternState$Scene", "takeHearer", "(LLanternState$Tape;)I"⟩, 18), (⟨"LanternState$Scene", "readNear", "(LLanternState$Tape;)Z"⟩, 18), (⟨"LanternState$Scene", "readAfter", "(LLanternState$Tape;)Z"⟩, 18), (⟨"LanternState$Scene", "readSetting", "(LLanternState$Tape;III)Z"⟩, 18), (⟨"LanternState", "closeText", "()V"⟩, 17), (⟨"LanternState", "isSlide", "(I)Z"⟩, 17), (⟨"LanternState", "isHearer", "(I)Z"⟩, 17), (⟨"LanternState$State", "whyNotShow", "(LLanternState$Scene;I)I"⟩, 11)]
theorem lw_r1 : ∀ q ∈ lw_privs_1, lw_okq q := List.forall_mem_cons.mpr ⟨lw_p0, List.forall_mem_cons.mpr ⟨lw_p1, List.forall_mem_cons.mpr ⟨lw_p2, List.forall_mem_cons.mpr ⟨lw_p3, List.forall_mem_cons.mpr ⟨lw_p4, List.forall_mem_cons.mpr ⟨lw_p5, List.forall_mem_cons.mpr ⟨lw_p6, List.forall_mem_cons.mpr ⟨lw_p7, List.forall_mem_cons.mpr ⟨lw_p8, List.forall_mem_cons.mpr ⟨lw_p9, List.forall_mem_cons.mpr ⟨lw_p10, List.forall_mem_cons.mpr ⟨lw_p11, List.forall_mem_cons.mpr ⟨lw_p12, List.forall_mem_cons.mpr ⟨lw_p13, List.forall_mem_cons.mpr ⟨lw_p14, List.forall_mem_cons.mpr ⟨lw_p15, fun _ h => absurd h List.not_mem_nil⟩⟩⟩⟩⟩⟩⟩⟩⟩⟩⟩⟩⟩⟩⟩⟩
theorem lw_p16 : lw_okq (⟨"LanternState$State", "project", "(LLanternState$Scene;II)I"⟩, 11) := ⟨⟨by decide +kernel, by decide +kernel⟩, List.mem_of_getElem? (i := 232) (by decide +kernel), List.mem_of_getElem? (i := 709) (by decide +kernel), List.mem_of_getElem? (i := 710) (by decide +kernel)⟩
theorem lw_p17 : lw_okq (⟨"LanternState", "keptShowing", "(I)I"⟩, 17) := ⟨⟨by decide +kernel, by decide +kernel⟩, List.mem_of_getElem? (i := 25) (by decide +kernel), List.mem_of_getElem? (i := 737) (by decide +kernel), List.mem_of_getElem? (i := 738) (by decide +kernel)⟩
theorem lw_p18 : lw_okq (⟨"LanternState$State", "letHourGo", "()V"⟩, 11) := ⟨⟨by decide +kernel, by decide +kernel⟩, List.mem_of_getElem? (i := 232) (by decide +kernel), List.mem_of_getElem? (i := 781) (by decide +kernel), List.mem_of_getElem? (i := 782) (by decide +kernel)⟩
theorem lw_p19 : lw_okq (⟨"LanternState", "sighers", "(II)I"⟩, 17) := ⟨⟨by decide +kernel, by decide +kernel⟩, List.mem_of_getElem? (i := 25) (by decide +kernel), List.mem_of_getElem? (i := 800) (by decide +kernel), List.mem_of_getElem? (i := 801) (by decide +kernel)⟩
theorem lw_p20 : lw_okq (⟨"LanternState$Search", "keepIfBetter", "(II)V"⟩, 7) := ⟨⟨by decide +kernel, by decide +kernel⟩, List.mem_of_getElem? (i := 372) (by decide +kernel), List.mem_of_getElem? (i := 825) (by decide +kernel), List.mem_of_getElem? (i := 826) (by decide +kernel)⟩
theorem lw_p21 : lw_okq (⟨"LanternState$Search", "goOn", "(LLanternState$Scene;IIIII)V"⟩, 7) := ⟨⟨by decide +kernel, by decide +kernel⟩, List.mem_of_getElem? (i := 372) (by decide +kernel), List.mem_of_getElem? (i := 830) (by decide +kernel), List.mem_of_getElem? (i := 831) (by decide +kernel)⟩
theorem lw_p22 : lw_okq (⟨"LanternState$Search", "leastCells", "(LLanternState$Scene;III)I"⟩, 7) := ⟨⟨by decide +kernel, by decide +kernel⟩, List.mem_of_getElem? (i := 372) (by decide +kernel), List.mem_of_getElem? (i := 861) (by decide +kernel), List.mem_of_getElem? (i := 862) (by decide +kernel)⟩
theorem lw_p23 : lw_okq (⟨"LanternState$Bill", "putName", "(J)V"⟩, 2) := ⟨⟨by decide +kernel, by decide +kernel⟩, List.mem_of_getElem? (i := 402) (by decide +kernel), List.mem_of_getElem? (i := 911) (by decide +kernel), List.mem_of_getElem? (i := 912) (by decide +kernel)⟩
theorem lw_p24 : lw_okq (⟨"LanternState$Bill", "putLetter", "(C)V"⟩, 2) := ⟨⟨by decide +kernel, by decide +kernel⟩, List.mem_of_getElem? (i := 402) (by decide +kernel), List.mem_of_getElem? (i := 916) (by decide +kernel), List.mem_of_getElem? (i := 917) (by decide +kernel)⟩
theorem lw_p25 : lw_okq (⟨"LanternState$Bill", "put", "(Ljava/lang/String;)V"⟩, 2) := ⟨⟨by decide +kernel, by decide +kernel⟩, List.mem_of_getElem? (i := 402) (by decide +kernel), List.mem_of_getElem? (i := 921) (by decide +kernel), List.mem_of_getElem? (i := 922) (by decide +kernel)⟩
theorem lw_p26 : lw_okq (⟨"LanternState$State", "drawOf", "(I)I"⟩, 11) := ⟨⟨by decide +kernel, by decide +kernel⟩, List.mem_of_getElem? (i := 232) (by decide +kernel), List.mem_of_getElem? (i := 943) (by decide +kernel), List.mem_of_getElem? (i := 944) (by decide +kernel)⟩
theorem lw_p27 : lw_okq (⟨"LanternState$Book", "readLine", "(LLanternState$Tape;LLanternState$Scene;)Z"⟩, 6) := ⟨⟨by decide +kernel, by decide +kernel⟩, List.mem_of_getElem? (i := 345) (by decide +kernel), List.mem_of_getElem? (i := 962) (by decide +kernel), List.mem_of_getElem? (i := 963) (by decide +kernel)⟩
theorem lw_p28 : lw_okq (⟨"LanternState$Book", "keepLine", "(IIII)Z"⟩, 6) := ⟨⟨by decide +kernel, by decide +kernel⟩, List.mem_of_getElem? (i := 345) (by decide +kernel), List.mem_of_getElem? (i := 970) (by decide +kernel), List.mem_of_getElem? (i := 971) (by decide +kernel)⟩
theorem lw_p29 : lw_okq (⟨"LanternState$Book", "readSlideAct", "(LLanternState$Tape;LLanternState$Scene;I)Z"⟩, 6) := ⟨⟨by decide +kernel, by decide +kernel⟩, List.mem_of_getElem? (i := 345) (by decide +kernel), List.mem_of_getElem? (i := 974) (by decide +kernel), List.mem_of_getElem? (i := 975) (by decide +kernel)⟩
theorem lw_p30 : lw_okq (⟨"LanternState$Book", "readSeatAct", "(LLanternState$Tape;I)Z"⟩, 6) := ⟨⟨by decide +kernel, by decide +kernel⟩, List.mem_of_getElem? (i := 345) (by decide +kernel), List.mem_of_getElem? (i := 979) (by decide +kernel), List.mem_of_getElem? (i := 980) (by decide +kernel)⟩
theorem lw_p31 : lw_okq (⟨"LanternState$Book", "liveLine", "(LLanternState$Scene;LLanternState$State;I)I"⟩, 6) := ⟨⟨by decide +kernel, by decide +kernel⟩, List.mem_of_getElem? (i := 345) (by decide +kernel), List.mem_of_getElem? (i := 993) (by decide +kernel), List.mem_of_getElem? (i := 994) (by decide +kernel)⟩
def lw_privs_2 : List (MethodName × Nat) := [(⟨"LanternState$State", "project", "(LLanternState$Scene;II)I"⟩, 11), (⟨"LanternState", "keptShowing", "(I)I"⟩, 17), (⟨"LanternState$State", "letHourGo", "()V"⟩, 11), (⟨"LanternState", "sighers", "(II)I"⟩, 17), (⟨"LanternState$Search", "keepIfBetter", "(II)V"⟩, 7), (⟨"LanternState$Search", "goOn", "(LLanternState$Scene;IIIII)V"⟩, 7), (⟨"LanternState$Search", "leastCells", "(LLanternState$Scene;III)I"⟩, 7), (⟨"LanternState$Bill", "putName", "(J)V"⟩, 2), (⟨"LanternState$Bill", "putLetter", "(C)V"⟩, 2), (⟨"LanternState$Bill", "put", "(Ljava/lang/String;)V"⟩, 2), (⟨"LanternState$State", "drawOf", "(I)I"⟩, 11), (⟨"LanternState$Book", "readLine", "(LLanternState$Tape;LLanternState$Scene;)Z"⟩, 6), (⟨"LanternState$Book", "keepLine", "(IIII)Z"⟩, 6), (⟨"LanternState$Book", "readSlideAct", "(LLanternState$Tape;LLanternState$Scene;I)Z"⟩, 6), (⟨"LanternState$Book", "readSeatAct", "(LLanternState$Tape;I)Z"⟩, 6), (⟨"LanternState$Book", "liveLine", "(LLanternState$Scene;LLanternState$State;I)I"⟩, 6)]
theorem lw_r2 : ∀ q ∈ lw_privs_2, lw_okq q := List.forall_mem_cons.mpr ⟨lw_p16, List.forall_mem_cons.mpr ⟨lw_p17, List.forall_mem_cons.mpr ⟨lw_p18, List.forall_mem_cons.mpr ⟨lw_p19, List.forall_mem_cons.mpr ⟨lw_p20, List.forall_mem_cons.mpr ⟨lw_p21, List.forall_mem_cons.mpr ⟨lw_p22, List.forall_mem_cons.mpr ⟨lw_p23, List.forall_mem_cons.mpr ⟨lw_p24, List.forall_mem_cons.mpr ⟨lw_p25, List.forall_mem_cons.mpr ⟨lw_p26, List.forall_mem_cons.mpr ⟨lw_p27, List.forall_mem_cons.mpr ⟨lw_p28, List.forall_mem_cons.mpr ⟨lw_p29, List.forall_mem_cons.mpr ⟨lw_p30, List.forall_mem_cons.mpr ⟨lw_p31, fun _ h => absurd h List.not_mem_nil⟩⟩⟩⟩⟩⟩⟩⟩⟩⟩⟩⟩⟩⟩⟩⟩
theorem lw_p32 : lw_okq (⟨"LanternState$Sentence", "readCond", "(LLanternState$Tape;LLanternState$Scene;I)Z"⟩, 7) := ⟨⟨by decide +kernel, by decide +kernel⟩, List.mem_of_getElem? (i := 315) (by decide +kernel), List.mem_of_getElem? (i := 1019) (by decide +kernel), List.mem_of_getElem? (i := 1020) (by decide +kernel)⟩
theorem lw_p33 : lw_okq (⟨"LanternState$Sentence", "readAll", "(LLanternState$Tape;LLanternState$Scene;I)Z"⟩, 7) := ⟨⟨by decide +kernel, by decide +kernel⟩, List.mem_of_getElem? (i := 315) (by decide +kernel), List.mem_of_getElem? (i := 1023) (by decide +kernel), List.mem_of_getElem? (i := 1024) (by decide +kernel)⟩
theorem lw_p34 : lw_okq (⟨"LanternState$Sentence", "readOne", "(LLanternState$Tape;LLanternState$Scene;I)Z"⟩, 7) := ⟨⟨by decide +kernel, by decide +kernel⟩, List.mem_of_getElem? (i := 315) (by decide +kernel), List.mem_of_getElem? (i := 1027) (by decide +kernel), List.mem_of_getElem? (i := 1028) (by decide +kernel)⟩
theorem lw_p35 : lw_okq (⟨"LanternState$Sentence", "readBracket", "(LLanternState$Tape;LLanternState$Scene;I)Z"⟩, 7) := ⟨⟨by decide +kernel, by decide +kernel⟩, List.mem_of_getElem? (i := 315) (by decide +kernel), List.mem_of_getElem? (i := 1033) (by decide +kernel), List.mem_of_getElem? (i := 1034) (by decide +kernel)⟩
theorem lw_p36 : lw_okq (⟨"LanternState$Sentence", "keepPart", "(III)Z"⟩, 7) := ⟨⟨by decide +kernel, by decide +kernel⟩, List.mem_of_getElem? (i := 315) (by decide +kernel), List.mem_of_getElem? (i := 1037) (by decide +kernel), List.mem_of_getElem? (i := 1038) (by decide +kernel)⟩
theorem lw_p37 : lw_okq (⟨"LanternState$Sentence", "keepLeaf", "(LLanternState$Tape;III)Z"⟩, 7) := ⟨⟨by decide +kernel, by decide +kernel⟩, List.mem_of_getElem? (i := 315) (by decide +kernel), List.mem_of_getElem? (i := 1042) (by decide +kernel), List.mem_of_getElem? (i := 1043) (by decide +kernel)⟩
theorem lw_p38 : lw_okq (⟨"LanternState$Sentence", "readMeasure", "(LLanternState$Tape;)Z"⟩, 7) := ⟨⟨by decide +kernel, by decide +kernel⟩, List.mem_of_getElem? (i := 315) (by decide +kernel), List.mem_of_getElem? (i := 1046) (by decide +kernel), List.mem_of_getElem? (i := 1047) (by decide +kernel)⟩
theorem lw_p39 : lw_okq (⟨"LanternState$Sentence", "leafSlides", "(LLanternState$Scene;LLanternState$State;I)I"⟩, 7) := ⟨⟨by decide +kernel, by decide +kernel⟩, List.mem_of_getElem? (i := 315) (by decide +kernel), List.mem_of_getElem? (i := 1063) (by decide +kernel), List.mem_of_getElem? (i := 1064) (by decide +kernel)⟩
theorem lw_p40 : lw_okq (⟨"LanternState$Sentence", "isLeafTrue", "(LLanternState$Scene;LLanternState$State;II)Z"⟩, 7) := ⟨⟨by decide +kernel, by decide +kernel⟩, List.mem_of_getElem? (i := 315) (by decide +kernel), List.mem_of_getElem? (i := 1068) (by decide +kernel), List.mem_of_getElem? (i := 1069) (by decide +kernel)⟩
theorem lw_p41 : lw_okq (⟨"LanternState$Sentence", "compares", "(II)Z"⟩, 7) := ⟨⟨by decide +kernel, by decide +kernel⟩, List.mem_of_getElem? (i := 315) (by decide +kernel), List.mem_of_getElem? (i := 1074) (by decide +kernel), List.mem_of_getElem? (i := 1075) (by decide +kernel)⟩
theorem lw_p42 : lw_okq (⟨"java/lang/Throwable", "fillInStackTrace", "(I)Ljava/lang/Throwable;"⟩, 6) := ⟨⟨by decide +kernel, by decide +kernel⟩, List.mem_of_getElem? (i := 1135) (by decide +kernel), List.mem_of_getElem? (i := 1133) (by decide +kernel), List.mem_of_getElem? (i := 1134) (by decide +kernel)⟩
theorem lw_p43 : lw_okq (⟨"LanternStateModel", "come", "(I)V"⟩, 44) := ⟨⟨by decide +kernel, by decide +kernel⟩, List.mem_of_getElem? (i := 1182) (by decide +kernel), List.mem_of_getElem? (i := 1180) (by decide +kernel), List.mem_of_getElem? (i := 1181) (by decide +kernel)⟩
theorem lw_p44 : lw_okq (⟨"LanternStateModel", "startRead", "()V"⟩, 44) := ⟨⟨by decide +kernel, by decide +kernel⟩, List.mem_of_getElem? (i := 1182) (by decide +kernel), List.mem_of_getElem? (i := 1194) (by decide +kernel), List.mem_of_getElem? (i := 1195) (by decide +kernel)⟩
theorem lw_p45 : lw_okq (⟨"LanternStateModel", "begin", "(I)V"⟩, 44) := ⟨⟨by decide +kernel, by decide +kernel⟩, List.mem_of_getElem? (i := 1182) (by decide +kernel), List.mem_of_getElem? (i := 1336) (by decide +kernel), List.mem_of_getElem? (i := 1337) (by decide +kernel)⟩
theorem lw_p46 : lw_okq (⟨"LanternStateModel", "take", "()I"⟩, 44) := ⟨⟨by decide +kernel, by decide +kernel⟩, List.mem_of_getElem? (i := 1182) (by decide +kernel), List.mem_of_getElem? (i := 1340) (by decide +kernel), List.mem_of_getElem? (i := 1341) (by decide +kernel)⟩
theorem lw_p47 : lw_okq (⟨"LanternStateModel", "go", "()V"⟩, 44) := ⟨⟨by decide +kernel, by decide +kernel⟩, List.mem_of_getElem? (i := 1182) (by decide +kernel), List.mem_of_getElem? (i := 1344) (by decide +kernel), List.mem_of_getElem? (i := 1345) (by decide +kernel)⟩
def lw_privs_3 : List (MethodName × Nat) := [(⟨"LanternState$Sentence", "readCond", "(LLanternState$Tape;LLanternState$Scene;I)Z"⟩, 7), (⟨"LanternState$Sentence", "readAll", "(LLanternState$Tape;LLanternState$Scene;I)Z"⟩, 7), (⟨"LanternState$Sentence", "readOne", "(LLanternState$Tape;LLanternState$Scene;I)Z"⟩, 7), (⟨"LanternState$Sentence", "readBracket", "(LLanternState$Tape;LLanternState$Scene;I)Z"⟩, 7), (⟨"LanternState$Sentence", "keepPart", "(III)Z"⟩, 7), (⟨"LanternState$Sentence", "keepLeaf", "(LLanternState$Tape;III)Z"⟩, 7), (⟨"LanternState$Sentence", "readMeasure", "(LLanternState$Tape;)Z"⟩, 7), (⟨"LanternState$Sentence", "leafSlides", "(LLanternState$Scene;LLanternState$State;I)I"⟩, 7), (⟨"LanternState$Sentence", "isLeafTrue", "(LLanternState$Scene;LLanternState$State;II)Z"⟩, 7), (⟨"LanternState$Sentence", "compares", "(II)Z"⟩, 7), (⟨"java/lang/Throwable", "fillInStackTrace", "(I)Ljava/lang/Throwable;"⟩, 6), (⟨"LanternStateModel", "come", "(I)V"⟩, 44), (⟨"LanternStateModel", "startRead", "()V"⟩, 44), (⟨"LanternStateModel", "begin", "(I)V"⟩, 44), (⟨"LanternStateModel", "take", "()I"⟩, 44), (⟨"LanternStateModel", "go", "()V"⟩, 44)]
theorem lw_r3 : ∀ q ∈ lw_privs_3, lw_okq q := List.forall_mem_cons.mpr ⟨lw_p32, List.forall_mem_cons.mpr ⟨lw_p33, List.forall_mem_cons.mpr ⟨lw_p34, List.forall_mem_cons.mpr ⟨lw_p35, List.forall_mem_cons.mpr ⟨lw_p36, List.forall_mem_cons.mpr ⟨lw_p37, List.forall_mem_cons.mpr ⟨lw_p38, List.forall_mem_cons.mpr ⟨lw_p39, List.forall_mem_cons.mpr ⟨lw_p40, List.forall_mem_cons.mpr ⟨lw_p41, List.forall_mem_cons.mpr ⟨lw_p42, List.forall_mem_cons.mpr ⟨lw_p43, List.forall_mem_cons.mpr ⟨lw_p44, List.forall_mem_cons.mpr ⟨lw_p45, List.forall_mem_cons.mpr ⟨lw_p46, List.forall_mem_cons.mpr ⟨lw_p47, fun _ h => absurd h List.not_mem_nil⟩⟩⟩⟩⟩⟩⟩⟩⟩⟩⟩⟩⟩⟩⟩⟩
theorem lw_p48 : lw_okq (⟨"LanternStateModel", "tapeAt", "(I)I"⟩, 44) := ⟨⟨by decide +kernel, by decide +kernel⟩, List.mem_of_getElem? (i := 1182) (by decide +kernel), List.mem_of_getElem? (i := 1354) (by decide +kernel), List.mem_of_getElem? (i := 1355) (by decide +kernel)⟩
theorem lw_p49 : lw_okq (⟨"LanternStateModel", "readLine", "()Z"⟩, 44) := ⟨⟨by decide +kernel, by decide +kernel⟩, List.mem_of_getElem? (i := 1182) (by decide +kernel), List.mem_of_getElem? (i := 1360) (by decide +kernel), List.mem_of_getElem? (i := 1361) (by decide +kernel)⟩
theorem lw_p50 : lw_okq (⟨"LanternStateModel", "isWord", "(I)Z"⟩, 44) := ⟨⟨by decide +kernel, by decide +kernel⟩, List.mem_of_getElem? (i := 1182) (by decide +kernel), List.mem_of_getElem? (i := 1364) (by decide +kernel), List.mem_of_getElem? (i := 1365) (by decide +kernel)⟩
theorem lw_p51 : lw_okq (⟨"LanternStateModel", "readSlide", "()Z"⟩, 44) := ⟨⟨by decide +kernel, by decide +kernel⟩, List.mem_of_getElem? (i := 1182) (by decide +kernel), List.mem_of_getElem? (i := 1374) (by decide +kernel), List.mem_of_getElem? (i := 1375) (by decide +kernel)⟩
theorem lw_p52 : lw_okq (⟨"LanternStateModel", "readFirst", "(II)Z"⟩, 44) := ⟨⟨by decide +kernel, by decide +kernel⟩, List.mem_of_getElem? (i := 1182) (by decide +kernel), List.mem_of_getElem? (i := 1378) (by decide +kernel), List.mem_of_getElem? (i := 1379) (by decide +kernel)⟩
theorem lw_p53 : lw_okq (⟨"LanternStateModel", "bad", "(I)Z"⟩, 44) := ⟨⟨by decide +kernel, by decide +kernel⟩, List.mem_of_getElem? (i := 1182) (by decide +kernel), List.mem_of_getElem? (i := 1382) (by decide +kernel), List.mem_of_getElem? (i := 1383) (by decide +kernel)⟩
theorem lw_p54 : lw_okq (⟨"LanternStateModel", "readNew", "(I)Z"⟩, 44) := ⟨⟨by decide +kernel, by decide +kernel⟩, List.mem_of_getElem? (i := 1182) (by decide +kernel), List.mem_of_getElem? (i := 1386) (by decide +kernel), List.mem_of_getElem? (i := 1387) (by decide +kernel)⟩
theorem lw_p55 : lw_okq (⟨"LanternStateModel", "isName", "()Z"⟩, 44) := ⟨⟨by decide +kernel, by decide +kernel⟩, List.mem_of_getElem? (i := 1182) (by decide +kernel), List.mem_of_getElem? (i := 1390) (by decide +kernel), List.mem_of_getElem? (i := 1391) (by decide +kernel)⟩
theorem lw_p56 : lw_okq (⟨"LanternStateModel", "readNumber", "(II)Z"⟩, 44) := ⟨⟨by decide +kernel, by decide +kernel⟩, List.mem_of_getElem? (i := 1182) (by decide +kernel), List.mem_of_getElem? (i := 1397) (by decide +kernel), List.mem_of_getElem? (i := 1398) (by decide +kernel)⟩
theorem lw_p57 : lw_okq (⟨"LanternStateModel", "put", "(IZ)Z"⟩, 44) := ⟨⟨by decide +kernel, by decide +kernel⟩, List.mem_of_getElem? (i := 1182) (by decide +kernel), List.mem_of_getElem? (i := 1407) (by decide +kernel), List.mem_of_getElem? (i := 1408) (by decide +kernel)⟩
theorem lw_p58 : lw_okq (⟨"LanternStateModel", "readHearer", "()Z"⟩, 44) := ⟨⟨by decide +kernel, by decide +kernel⟩, List.mem_of_getElem? (i := 1182) (by decide +kernel), List.mem_of_getElem? (i := 1411) (by decide +kernel), List.mem_of_getElem? (i := 1412) (by decide +kernel)⟩
theorem lw_p59 : lw_okq (⟨"LanternStateModel", "isSeat", "()Z"⟩, 44) := ⟨⟨by decide +kernel, by decide +kernel⟩, List.mem_of_getElem? (i := 1182) (by decide +kernel), List.mem_of_getElem? (i := 1415) (by decide +kernel), List.mem_of_getElem? (i := 1416) (by decide +kernel)⟩
theorem lw_p60 : lw_okq (⟨"LanternStateModel", "readThinks", "(I)Z"⟩, 44) := ⟨⟨by decide +kernel, by decide +kernel⟩, List.mem_of_getElem? (i := 1182) (by decide +kernel), List.mem_of_getElem? (i := 1419) (by decide +kernel), List.mem_of_getElem? (i := 1420) (by decide +kernel)⟩
theorem lw_p61 : lw_okq (⟨"LanternStateModel", "isHearerHere", "()Z"⟩, 44) := ⟨⟨by decide +kernel, by decide +kernel⟩, List.mem_of_getElem? (i := 1182) (by decide +kernel), List.mem_of_getElem? (i := 1423) (by decide +kernel), List.mem_of_getElem? (i := 1424) (by decide +kernel)⟩
theorem lw_p62 : lw_okq (⟨"LanternStateModel", "isOne", "(II)Z"⟩, 44) := ⟨⟨by decide +kernel, by decide +kernel⟩, List.mem_of_getElem? (i := 1182) (by decide +kernel), List.mem_of_getElem? (i := 1427) (by decide +kernel), List.mem_of_getElem? (i := 1428) (by decide +kernel)⟩
theorem lw_p63 : lw_okq (⟨"LanternStateModel", "readNear", "()Z"⟩, 44) := ⟨⟨by decide +kernel, by decide +kernel⟩, List.mem_of_getElem? (i := 1182) (by decide +kernel), List.mem_of_getElem? (i := 1434) (by decide +kernel), List.mem_of_getElem? (i := 1435) (by decide +kernel)⟩
def lw_privs_4 : List (MethodName × Nat) := [(⟨"LanternStateModel", "tapeAt", "(I)I"⟩, 44), (⟨"LanternStateModel", "readLine", "()Z"⟩, 44), (⟨"LanternStateModel", "isWord", "(I)Z"⟩, 44), (⟨"LanternStateModel", "readSlide", "()Z"⟩, 44), (⟨"LanternStateModel", "readFirst", "(II)Z"⟩, 44), (⟨"LanternStateModel", "bad", "(I)Z"⟩, 44), (⟨"LanternStateModel", "readNew", "(I)Z"⟩, 44), (⟨"LanternStateModel", "isName", "()Z"⟩, 44), (⟨"LanternStateModel", "readNumber", "(II)Z"⟩, 44), (⟨"LanternStateModel", "put", "(IZ)Z"⟩, 44), (⟨"LanternStateModel", "readHearer", "()Z"⟩, 44), (⟨"LanternStateModel", "isSeat", "()Z"⟩, 44), (⟨"LanternStateModel", "readThinks", "(I)Z"⟩, 44), (⟨"LanternStateModel", "isHearerHere", "()Z"⟩, 44), (⟨"LanternStateModel", "isOne", "(II)Z"⟩, 44), (⟨"LanternStateModel", "readNear", "()Z"⟩, 44)]
theorem lw_r4 : ∀ q ∈ lw_privs_4, lw_okq q := List.forall_mem_cons.mpr ⟨lw_p48, List.forall_mem_cons.mpr ⟨lw_p49, List.forall_mem_cons.mpr ⟨lw_p50, List.forall_mem_cons.mpr ⟨lw_p51, List.forall_mem_cons.mpr ⟨lw_p52, List.forall_mem_cons.mpr ⟨lw_p53, List.forall_mem_cons.mpr ⟨lw_p54, List.forall_mem_cons.mpr ⟨lw_p55, List.forall_mem_cons.mpr ⟨lw_p56, List.forall_mem_cons.mpr ⟨lw_p57, List.forall_mem_cons.mpr ⟨lw_p58, List.forall_mem_cons.mpr ⟨lw_p59, List.forall_mem_cons.mpr ⟨lw_p60, List.forall_mem_cons.mpr ⟨lw_p61, List.forall_mem_cons.mpr ⟨lw_p62, List.forall_mem_cons.mpr ⟨lw_p63, fun _ h => absurd h List.not_mem_nil⟩⟩⟩⟩⟩⟩⟩⟩⟩⟩⟩⟩⟩⟩⟩⟩
theorem lw_p64 : lw_okq (⟨"LanternStateModel", "readAfter", "()Z"⟩, 44) := ⟨⟨by decide +kernel, by decide +kernel⟩, List.mem_of_getElem? (i := 1182) (by decide +kernel), List.mem_of_getElem? (i := 1438) (by decide +kernel), List.mem_of_getElem? (i := 1439) (by decide +kernel)⟩
theorem lw_p65 : lw_okq (⟨"LanternStateModel", "isSlideHere", "()Z"⟩, 44) := ⟨⟨by decide +kernel, by decide +kernel⟩, List.mem_of_getElem? (i := 1182) (by decide +kernel), List.mem_of_getElem? (i := 1442) (by decide +kernel), List.mem_of_getElem? (i := 1443) (by decide +kernel)⟩
theorem lw_p66 : lw_okq (⟨"LanternStateModel", "isFresh", "(I)Z"⟩, 44) := ⟨⟨by decide +kernel, by decide +kernel⟩, List.mem_of_getElem? (i := 1182) (by decide +kernel), List.mem_of_getElem? (i := 1446) (by decide +kernel), List.mem_of_getElem? (i := 1447) (by decide +kernel)⟩
theorem lw_p67 : lw_okq (⟨"LanternStateModel", "readEnd", "()Z"⟩, 44) := ⟨⟨by decide +kernel, by decide +kernel⟩, List.mem_of_getElem? (i := 1182) (by decide +kernel), List.mem_of_getElem? (i := 1450) (by decide +kernel), List.mem_of_getElem? (i := 1451) (by decide +kernel)⟩
theorem lw_p68 : lw_okq (⟨"LanternStateModel", "isSign", "(I)Z"⟩, 44) := ⟨⟨by decide +kernel, by decide +kernel⟩, List.mem_of_getElem? (i := 1182) (by decide +kernel), List.mem_of_getElem? (i := 1454) (by decide +kernel), List.mem_of_getElem? (i := 1455) (by decide +kernel)⟩
theorem lw_p69 : lw_okq (⟨"LanternStateModel", "startSo", "()V"⟩, 44) := ⟨⟨by decide +kernel, by decide +kernel⟩, List.mem_of_getElem? (i := 1182) (by decide +kernel), List.mem_of_getElem? (i := 1458) (by decide +kernel), List.mem_of_getElem? (i := 1459) (by decide +kernel)⟩
theorem lw_p70 : lw_okq (⟨"LanternStateModel", "isSlide", "(I)Z"⟩, 44) := ⟨⟨by decide +kernel, by decide +kernel⟩, List.mem_of_getElem? (i := 1182) (by decide +kernel), List.mem_of_getElem? (i := 1470) (by decide +kernel), List.mem_of_getElem? (i := 1471) (by decide +kernel)⟩
theorem lw_p71 : lw_okq (⟨"LanternStateModel", "refuse", "()I"⟩, 44) := ⟨⟨by decide +kernel, by decide +kernel⟩, List.mem_of_getElem? (i := 1182) (by decide +kernel), List.mem_of_getElem? (i := 1474) (by decide +kernel), List.mem_of_getElem? (i := 1475) (by decide +kernel)⟩
theorem lw_p72 : lw_okq (⟨"LanternStateModel", "isSo", "(I)Z"⟩, 44) := ⟨⟨by decide +kernel, by decide +kernel⟩, List.mem_of_getElem? (i := 1182) (by decide +kernel), List.mem_of_getElem? (i := 1481) (by decide +kernel), List.mem_of_getElem? (i := 1482) (by decide +kernel)⟩
theorem lw_p73 : lw_okq (⟨"LanternStateModel", "isCracked", "(I)Z"⟩, 44) := ⟨⟨by decide +kernel, by decide +kernel⟩, List.mem_of_getElem? (i := 1182) (by decide +kernel), List.mem_of_getElem? (i := 1485) (by decide +kernel), List.mem_of_getElem? (i := 1486) (by decide +kernel)⟩
theorem lw_p74 : lw_okq (⟨"LanternStateModel", "isHearer", "(I)Z"⟩, 44) := ⟨⟨by decide +kernel, by decide +kernel⟩, List.mem_of_getElem? (i := 1182) (by decide +kernel), List.mem_of_getElem? (i := 1506) (by decide +kernel), List.mem_of_getElem? (i := 1507) (by decide +kernel)⟩
theorem lw_p75 : lw_okq (⟨"LanternStateModel", "seats", "()I"⟩, 44) := ⟨⟨by decide +kernel, by decide +kernel⟩, List.mem_of_getElem? (i := 1182) (by decide +kernel), List.mem_of_getElem? (i := 1518) (by decide +kernel), List.mem_of_getElem? (i := 1519) (by decide +kernel)⟩
theorem lw_p76 : lw_okq (⟨"LanternStateModel", "allSighs", "()I"⟩, 44) := ⟨⟨by decide +kernel, by decide +kernel⟩, List.mem_of_getElem? (i := 1182) (by decide +kernel), List.mem_of_getElem? (i := 1522) (by decide +kernel), List.mem_of_getElem? (i := 1523) (by decide +kernel)⟩
theorem lw_p77 : lw_okq (⟨"LanternStateModel", "sighsFor", "(II)I"⟩, 44) := ⟨⟨by decide +kernel, by decide +kernel⟩, List.mem_of_getElem? (i := 1182) (by decide +kernel), List.mem_of_getElem? (i := 1530) (by decide +kernel), List.mem_of_getElem? (i := 1531) (by decide +kernel)⟩
theorem lw_p78 : lw_okq (⟨"LanternStateModel", "sighsBy", "(II)I"⟩, 44) := ⟨⟨by decide +kernel, by decide +kernel⟩, List.mem_of_getElem? (i := 1182) (by decide +kernel), List.mem_of_getElem? (i := 1534) (by decide +kernel), List.mem_of_getElem? (i := 1535) (by decide +kernel)⟩
theorem lw_p79 : lw_okq (⟨"LanternStateModel", "sighsAlone", "(II)Z"⟩, 44) := ⟨⟨by decide +kernel, by decide +kernel⟩, List.mem_of_getElem? (i := 1182) (by decide +kernel), List.mem_of_getElem? (i := 1538) (by decide +kernel), List.mem_of_getElem? (i := 1539) (by decide +kernel)⟩
def lw_privs_5 : List (MethodName × Nat) := [(⟨"LanternStateModel", "readAfter", "()Z"⟩, 44), (⟨"LanternStateModel", "isSlideHere", "()Z"⟩, 44), (⟨"LanternStateModel", "isFresh", "(I)Z"⟩, 44), (⟨"LanternStateModel", "readEnd", "()Z"⟩, 44), (⟨"LanternStateModel", "isSign", "(I)Z"⟩, 44), (⟨"LanternStateModel", "startSo", "()V"⟩, 44), (⟨"LanternStateModel", "isSlide", "(I)Z"⟩, 44), (⟨"LanternStateModel", "refuse", "()I"⟩, 44), (⟨"LanternStateModel", "isSo", "(I)Z"⟩, 44), (⟨"LanternStateModel", "isCracked", "(I)Z"⟩, 44), (⟨"LanternStateModel", "isHearer", "(I)Z"⟩, 44), (⟨"LanternStateModel", "seats", "()I"⟩, 44), (⟨"LanternStateModel", "allSighs", "()I"⟩, 44), (⟨"LanternStateModel", "sighsFor", "(II)I"⟩, 44), (⟨"LanternStateModel", "sighsBy", "(II)I"⟩, 44), (⟨"LanternStateModel", "sighsAlone", "(II)Z"⟩, 44)]
theorem lw_r5 : ∀ q ∈ lw_privs_5, lw_okq q := List.forall_mem_cons.mpr ⟨lw_p64, List.forall_mem_cons.mpr ⟨lw_p65, List.forall_mem_cons.mpr ⟨lw_p66, List.forall_mem_cons.mpr ⟨lw_p67, List.forall_mem_cons.mpr ⟨lw_p68, List.forall_mem_cons.mpr ⟨lw_p69, List.forall_mem_cons.mpr ⟨lw_p70, List.forall_mem_cons.mpr ⟨lw_p71, List.forall_mem_cons.mpr ⟨lw_p72, List.forall_mem_cons.mpr ⟨lw_p73, List.forall_mem_cons.mpr ⟨lw_p74, List.forall_mem_cons.mpr ⟨lw_p75, List.forall_mem_cons.mpr ⟨lw_p76, List.forall_mem_cons.mpr ⟨lw_p77, List.forall_mem_cons.mpr ⟨lw_p78, List.forall_mem_cons.mpr ⟨lw_p79, fun _ h => absurd h List.not_mem_nil⟩⟩⟩⟩⟩⟩⟩⟩⟩⟩⟩⟩⟩⟩⟩⟩
theorem lw_p80 : lw_okq (⟨"LanternStateModel", "spreadFrom", "(I)I"⟩, 44) := ⟨⟨by decide +kernel, by decide +kernel⟩, List.mem_of_getElem? (i := 1182) (by decide +kernel), List.mem_of_getElem? (i := 1542) (by decide +kernel), List.mem_of_getElem? (i := 1543) (by decide +kernel)⟩
theorem lw_p81 : lw_okq (⟨"LanternStateModel", "why", "(III)I"⟩, 44) := ⟨⟨by decide +kernel, by decide +kernel⟩, List.mem_of_getElem? (i := 1182) (by decide +kernel), List.mem_of_getElem? (i := 1558) (by decide +kernel), List.mem_of_getElem? (i := 1559) (by decide +kernel)⟩
theorem lw_p82 : lw_okq (⟨"LanternStateModel", "waits", "(I)Z"⟩, 44) := ⟨⟨by decide +kernel, by decide +kernel⟩, List.mem_of_getElem? (i := 1182) (by decide +kernel), List.mem_of_getElem? (i := 1562) (by decide +kernel), List.mem_of_getElem? (i := 1563) (by decide +kernel)⟩
theorem lw_p83 : lw_okq (⟨"LanternStateModel", "snap", "()V"⟩, 44) := ⟨⟨by decide +kernel, by decide +kernel⟩, List.mem_of_getElem? (i := 1182) (by decide +kernel), List.mem_of_getElem? (i := 1566) (by decide +kernel), List.mem_of_getElem? (i := 1567) (by decide +kernel)⟩
theorem lw_p84 : lw_okq (⟨"LanternStateModel", "live", "(III)I"⟩, 44) := ⟨⟨by decide +kernel, by decide +kernel⟩, List.mem_of_getElem? (i := 1182) (by decide +kernel), List.mem_of_getElem? (i := 1570) (by decide +kernel), List.mem_of_getElem? (i := 1571) (by decide +kernel)⟩
theorem lw_p85 : lw_okq (⟨"LanternStateModel", "light", "(II)I"⟩, 44) := ⟨⟨by decide +kernel, by decide +kernel⟩, List.mem_of_getElem? (i := 1182) (by decide +kernel), List.mem_of_getElem? (i := 1574) (by decide +kernel), List.mem_of_getElem? (i := 1575) (by decide +kernel)⟩
theorem lw_p86 : lw_okq (⟨"LanternStateModel", "act", "(III)I"⟩, 44) := ⟨⟨by decide +kernel, by decide +kernel⟩, List.mem_of_getElem? (i := 1182) (by decide +kernel), List.mem_of_getElem? (i := 1586) (by decide +kernel), List.mem_of_getElem? (i := 1587) (by decide +kernel)⟩
theorem lw_p87 : lw_okq (⟨"LanternStateModel", "passHours", "(I)I"⟩, 44) := ⟨⟨by decide +kernel, by decide +kernel⟩, List.mem_of_getElem? (i := 1182) (by decide +kernel), List.mem_of_getElem? (i := 1602) (by decide +kernel), List.mem_of_getElem? (i := 1603) (by decide +kernel)⟩
theorem lw_p88 : lw_okq (⟨"LanternStateModel", "oneHour", "()V"⟩, 44) := ⟨⟨by decide +kernel, by decide +kernel⟩, List.mem_of_getElem? (i := 1182) (by decide +kernel), List.mem_of_getElem? (i := 1609) (by decide +kernel), List.mem_of_getElem? (i := 1610) (by decide +kernel)⟩
theorem lw_p89 : lw_okq (⟨"LanternStateModel", "endOrder", "(II)V"⟩, 44) := ⟨⟨by decide +kernel, by decide +kernel⟩, List.mem_of_getElem? (i := 1182) (by decide +kernel), List.mem_of_getElem? (i := 1617) (by decide +kernel), List.mem_of_getElem? (i := 1618) (by decide +kernel)⟩
theorem lw_p90 : lw_okq (⟨"LanternStateModel", "orderFrom", "(IIIII)V"⟩, 44) := ⟨⟨by decide +kernel, by decide +kernel⟩, List.mem_of_getElem? (i := 1182) (by decide +kernel), List.mem_of_getElem? (i := 1621) (by decide +kernel), List.mem_of_getElem? (i := 1622) (by decide +kernel)⟩
theorem lw_p91 : lw_okq (⟨"LanternStateModel", "unevenBy", "(I)I"⟩, 44) := ⟨⟨by decide +kernel, by decide +kernel⟩, List.mem_of_getElem? (i := 1182) (by decide +kernel), List.mem_of_getElem? (i := 1665) (by decide +kernel), List.mem_of_getElem? (i := 1666) (by decide +kernel)⟩
theorem lw_p92 : lw_okq (⟨"LanternStateModel", "writeWord", "(J)V"⟩, 44) := ⟨⟨by decide +kernel, by decide +kernel⟩, List.mem_of_getElem? (i := 1182) (by decide +kernel), List.mem_of_getElem? (i := 1676) (by decide +kernel), List.mem_of_getElem? (i := 1677) (by decide +kernel)⟩
theorem lw_p93 : lw_okq (⟨"LanternStateModel", "write", "(I)V"⟩, 44) := ⟨⟨by decide +kernel, by decide +kernel⟩, List.mem_of_getElem? (i := 1182) (by decide +kernel), List.mem_of_getElem? (i := 1680) (by decide +kernel), List.mem_of_getElem? (i := 1681) (by decide +kernel)⟩
theorem lw_p94 : lw_okq (⟨"LanternStateModel", "writeNext", "(J)V"⟩, 44) := ⟨⟨by decide +kernel, by decide +kernel⟩, List.mem_of_getElem? (i := 1182) (by decide +kernel), List.mem_of_getElem? (i := 1684) (by decide +kernel), List.mem_of_getElem? (i := 1685) (by decide +kernel)⟩
theorem lw_p95 : lw_okq (⟨"LanternStateModel", "drawHours", "(II)I"⟩, 44) := ⟨⟨by decide +kernel, by decide +kernel⟩, List.mem_of_getElem? (i := 1182) (by decide +kernel), List.mem_of_getElem? (i := 1696) (by decide +kernel), List.mem_of_getElem? (i := 1697) (by decide +kernel)⟩
def lw_privs_6 : List (MethodName × Nat) := [(⟨"LanternStateModel", "spreadFrom", "(I)I"⟩, 44), (⟨"LanternStateModel", "why", "(III)I"⟩, 44), (⟨"LanternStateModel", "waits", "(I)Z"⟩, 44), (⟨"LanternStateModel", "snap", "()V"⟩, 44), (⟨"LanternStateModel", "live", "(III)I"⟩, 44), (⟨"LanternStateModel", "light", "(II)I"⟩, 44), (⟨"LanternStateModel", "act", "(III)I"⟩, 44), (⟨"LanternStateModel", "passHours", "(I)I"⟩, 44), (⟨"LanternStateModel", "oneHour", "()V"⟩, 44), (⟨"LanternStateModel", "endOrder", "(II)V"⟩, 44), (⟨"LanternStateModel", "orderFrom", "(IIIII)V"⟩, 44), (⟨"LanternStateModel", "unevenBy", "(I)I"⟩, 44), (⟨"LanternStateModel", "writeWord", "(J)V"⟩, 44), (⟨"LanternStateModel", "write", "(I)V"⟩, 44), (⟨"LanternStateModel", "writeNext", "(J)V"⟩, 44), (⟨"LanternStateModel", "drawHours", "(II)I"⟩, 44)]
theorem lw_r6 : ∀ q ∈ lw_privs_6, lw_okq q := List.forall_mem_cons.mpr ⟨lw_p80, List.forall_mem_cons.mpr ⟨lw_p81, List.forall_mem_cons.mpr ⟨lw_p82, List.forall_mem_cons.mpr ⟨lw_p83, List.forall_mem_cons.mpr ⟨lw_p84, List.forall_mem_cons.mpr ⟨lw_p85, List.forall_mem_cons.mpr ⟨lw_p86, List.forall_mem_cons.mpr ⟨lw_p87, List.forall_mem_cons.mpr ⟨lw_p88, List.forall_mem_cons.mpr ⟨lw_p89, List.forall_mem_cons.mpr ⟨lw_p90, List.forall_mem_cons.mpr ⟨lw_p91, List.forall_mem_cons.mpr ⟨lw_p92, List.forall_mem_cons.mpr ⟨lw_p93, List.forall_mem_cons.mpr ⟨lw_p94, List.forall_mem_cons.mpr ⟨lw_p95, fun _ h => absurd h List.not_mem_nil⟩⟩⟩⟩⟩⟩⟩⟩⟩⟩⟩⟩⟩⟩⟩⟩
theorem lw_p96 : lw_okq (⟨"LanternStateModel", "draw", "(I)I"⟩, 44) := ⟨⟨by decide +kernel, by decide +kernel⟩, List.mem_of_getElem? (i := 1182) (by decide +kernel), List.mem_of_getElem? (i := 1700) (by decide +kernel), List.mem_of_getElem? (i := 1701) (by decide +kernel)⟩
theorem lw_p97 : lw_okq (⟨"LanternStateModel", "layAside", "()V"⟩, 44) := ⟨⟨by decide +kernel, by decide +kernel⟩, List.mem_of_getElem? (i := 1182) (by decide +kernel), List.mem_of_getElem? (i := 1709) (by decide +kernel), List.mem_of_getElem? (i := 1710) (by decide +kernel)⟩
theorem lw_p98 : lw_okq (⟨"LanternStateModel", "takeBack", "()V"⟩, 44) := ⟨⟨by decide +kernel, by decide +kernel⟩, List.mem_of_getElem? (i := 1182) (by decide +kernel), List.mem_of_getElem? (i := 1713) (by decide +kernel), List.mem_of_getElem? (i := 1714) (by decide +kernel)⟩
theorem lw_p99 : lw_okq (⟨"LanternStateModel", "readBookLine", "()Z"⟩, 44) := ⟨⟨by decide +kernel, by decide +kernel⟩, List.mem_of_getElem? (i := 1182) (by decide +kernel), List.mem_of_getElem? (i := 1721) (by decide +kernel), List.mem_of_getElem? (i := 1722) (by decide +kernel)⟩
theorem lw_p100 : lw_okq (⟨"LanternStateModel", "keep", "(IZ)Z"⟩, 44) := ⟨⟨by decide +kernel, by decide +kernel⟩, List.mem_of_getElem? (i := 1182) (by decide +kernel), List.mem_of_getElem? (i := 1725) (by decide +kernel), List.mem_of_getElem? (i := 1726) (by decide +kernel)⟩
theorem lw_p101 : lw_okq (⟨"LanternStateModel", "readHearerDoes", "(I)Z"⟩, 44) := ⟨⟨by decide +kernel, by decide +kernel⟩, List.mem_of_getElem? (i := 1182) (by decide +kernel), List.mem_of_getElem? (i := 1729) (by decide +kernel), List.mem_of_getElem? (i := 1730) (by decide +kernel)⟩
theorem lw_p102 : lw_okq (⟨"LanternStateModel", "readSlideDoes", "(I)Z"⟩, 44) := ⟨⟨by decide +kernel, by decide +kernel⟩, List.mem_of_getElem? (i := 1182) (by decide +kernel), List.mem_of_getElem? (i := 1733) (by decide +kernel), List.mem_of_getElem? (i := 1734) (by decide +kernel)⟩
theorem lw_p103 : lw_okq (⟨"LanternStateModel", "readOtherSlide", "()Z"⟩, 44) := ⟨⟨by decide +kernel, by decide +kernel⟩, List.mem_of_getElem? (i := 1182) (by decide +kernel), List.mem_of_getElem? (i := 1737) (by decide +kernel), List.mem_of_getElem? (i := 1738) (by decide +kernel)⟩
theorem lw_p104 : lw_okq (⟨"LanternStateModel", "readCell", "(I)Z"⟩, 44) := ⟨⟨by decide +kernel, by decide +kernel⟩, List.mem_of_getElem? (i := 1182) (by decide +kernel), List.mem_of_getElem? (i := 1741) (by decide +kernel), List.mem_of_getElem? (i := 1742) (by decide +kernel)⟩
theorem lw_p105 : lw_okq (⟨"LanternStateModel", "goBy", "(I)I"⟩, 44) := ⟨⟨by decide +kernel, by decide +kernel⟩, List.mem_of_getElem? (i := 1182) (by decide +kernel), List.mem_of_getElem? (i := 1745) (by decide +kernel), List.mem_of_getElem? (i := 1746) (by decide +kernel)⟩
theorem lw_p106 : lw_okq (⟨"LanternStateModel", "stay", "(Z)V"⟩, 44) := ⟨⟨by decide +kernel, by decide +kernel⟩, List.mem_of_getElem? (i := 1182) (by decide +kernel), List.mem_of_getElem? (i := 1749) (by decide +kernel), List.mem_of_getElem? (i := 1750) (by decide +kernel)⟩
theorem lw_p107 : lw_okq (⟨"LanternStateModel", "readOr", "()Z"⟩, 44) := ⟨⟨by decide +kernel, by decide +kernel⟩, List.mem_of_getElem? (i := 1182) (by decide +kernel), List.mem_of_getElem? (i := 1761) (by decide +kernel), List.mem_of_getElem? (i := 1762) (by decide +kernel)⟩
theorem lw_p108 : lw_okq (⟨"LanternStateModel", "readAnd", "()Z"⟩, 44) := ⟨⟨by decide +kernel, by decide +kernel⟩, List.mem_of_getElem? (i := 1182) (by decide +kernel), List.mem_of_getElem? (i := 1765) (by decide +kernel), List.mem_of_getElem? (i := 1766) (by decide +kernel)⟩
theorem lw_p109 : lw_okq (⟨"LanternStateModel", "readSaid", "()Z"⟩, 44) := ⟨⟨by decide +kernel, by decide +kernel⟩, List.mem_of_getElem? (i := 1182) (by decide +kernel), List.mem_of_getElem? (i := 1769) (by decide +kernel), List.mem_of_getElem? (i := 1770) (by decide +kernel)⟩
theorem lw_p110 : lw_okq (⟨"LanternStateModel", "readBracket", "()Z"⟩, 44) := ⟨⟨by decide +kernel, by decide +kernel⟩, List.mem_of_getElem? (i := 1182) (by decide +kernel), List.mem_of_getElem? (i := 1773) (by decide +kernel), List.mem_of_getElem? (i := 1774) (by decide +kernel)⟩
theorem lw_p111 : lw_okq (⟨"LanternStateModel", "readNot", "()Z"⟩, 44) := ⟨⟨by decide +kernel, by decide +kernel⟩, List.mem_of_getElem? (i := 1182) (by decide +kernel), List.mem_of_getElem? (i := 1777) (by decide +kernel), List.mem_of_getElem? (i := 1778) (by decide +kernel)⟩
def lw_privs_7 : List (MethodName × Nat) := [(⟨"LanternStateModel", "draw", "(I)I"⟩, 44), (⟨"LanternStateModel", "layAside", "()V"⟩, 44), (⟨"LanternStateModel", "takeBack", "()V"⟩, 44), (⟨"LanternStateModel", "readBookLine", "()Z"⟩, 44), (⟨"LanternStateModel", "keep", "(IZ)Z"⟩, 44), (⟨"LanternStateModel", "readHearerDoes", "(I)Z"⟩, 44), (⟨"LanternStateModel", "readSlideDoes", "(I)Z"⟩, 44), (⟨"LanternStateModel", "readOtherSlide", "()Z"⟩, 44), (⟨"LanternStateModel", "readCell", "(I)Z"⟩, 44), (⟨"LanternStateModel", "goBy", "(I)I"⟩, 44), (⟨"LanternStateModel", "stay", "(Z)V"⟩, 44), (⟨"LanternStateModel", "readOr", "()Z"⟩, 44), (⟨"LanternStateModel", "readAnd", "()Z"⟩, 44), (⟨"LanternStateModel", "readSaid", "()Z"⟩, 44), (⟨"LanternStateModel", "readBracket", "()Z"⟩, 44), (⟨"LanternStateModel", "readNot", "()Z"⟩, 44)]
theorem lw_r7 : ∀ q ∈ lw_privs_7, lw_okq q := List.forall_mem_cons.mpr ⟨lw_p96, List.forall_mem_cons.mpr ⟨lw_p97, List.forall_mem_cons.mpr ⟨lw_p98, List.forall_mem_cons.mpr ⟨lw_p99, List.forall_mem_cons.mpr ⟨lw_p100, List.forall_mem_cons.mpr ⟨lw_p101, List.forall_mem_cons.mpr ⟨lw_p102, List.forall_mem_cons.mpr ⟨lw_p103, List.forall_mem_cons.mpr ⟨lw_p104, List.forall_mem_cons.mpr ⟨lw_p105, List.forall_mem_cons.mpr ⟨lw_p106, List.forall_mem_cons.mpr ⟨lw_p107, List.forall_mem_cons.mpr ⟨lw_p108, List.forall_mem_cons.mpr ⟨lw_p109, List.forall_mem_cons.mpr ⟨lw_p110, List.forall_mem_cons.mpr ⟨lw_p111, fun _ h => absurd h List.not_mem_nil⟩⟩⟩⟩⟩⟩⟩⟩⟩⟩⟩⟩⟩⟩⟩⟩
theorem lw_p112 : lw_okq (⟨"LanternStateModel", "saysOne", "(IIII)I"⟩, 44) := ⟨⟨by decide +kernel, by decide +kernel⟩, List.mem_of_getElem? (i := 1182) (by decide +kernel), List.mem_of_getElem? (i := 1781) (by decide +kernel), List.mem_of_getElem? (i := 1782) (by decide +kernel)⟩
theorem lw_p113 : lw_okq (⟨"LanternStateModel", "readOf", "(I)Z"⟩, 44) := ⟨⟨by decide +kernel, by decide +kernel⟩, List.mem_of_getElem? (i := 1182) (by decide +kernel), List.mem_of_getElem? (i := 1785) (by decide +kernel), List.mem_of_getElem? (i := 1786) (by decide +kernel)⟩
theorem lw_p114 : lw_okq (⟨"LanternStateModel", "readCompare", "(I)Z"⟩, 44) := ⟨⟨by decide +kernel, by decide +kernel⟩, List.mem_of_getElem? (i := 1182) (by decide +kernel), List.mem_of_getElem? (i := 1789) (by decide +kernel), List.mem_of_getElem? (i := 1790) (by decide +kernel)⟩
theorem lw_p115 : lw_okq (⟨"LanternStateModel", "holds", "(II)Z"⟩, 44) := ⟨⟨by decide +kernel, by decide +kernel⟩, List.mem_of_getElem? (i := 1182) (by decide +kernel), List.mem_of_getElem? (i := 1797) (by decide +kernel), List.mem_of_getElem? (i := 1798) (by decide +kernel)⟩
def lw_privs_8 : List (MethodName × Nat) := [(⟨"LanternStateModel", "saysOne", "(IIII)I"⟩, 44), (⟨"LanternStateModel", "readOf", "(I)Z"⟩, 44), (⟨"LanternStateModel", "readCompare", "(I)Z"⟩, 44), (⟨"LanternStateModel", "holds", "(II)Z"⟩, 44)]
theorem lw_r8 : ∀ q ∈ lw_privs_8, lw_okq q := List.forall_mem_cons.mpr ⟨lw_p112, List.forall_mem_cons.mpr ⟨lw_p113, List.forall_mem_cons.mpr ⟨lw_p114, List.forall_mem_cons.mpr ⟨lw_p115, fun _ h => absurd h List.not_mem_nil⟩⟩⟩⟩
def lw_privs : List (MethodName × Nat) := lw_privs_1 ++ (lw_privs_2 ++ (lw_privs_3 ++ (lw_privs_4 ++ (lw_privs_5 ++ (lw_privs_6 ++ (lw_privs_7 ++ (lw_privs_8)))))))
def lw_tbl : List Cond := k2_sels lw_privs ++ tables_1
theorem lw_privs_ok : ∀ q ∈ lw_privs, lw_okq q := by
  show ∀ q ∈ lw_privs_1 ++ (lw_privs_2 ++ (lw_privs_3 ++ (lw_privs_4 ++ (lw_privs_5 ++ (lw_privs_6 ++ (lw_privs_7 ++ (lw_privs_8))))))), lw_okq q
  exact List.forall_mem_append.mpr ⟨lw_r1, List.forall_mem_append.mpr ⟨lw_r2, List.forall_mem_append.mpr ⟨lw_r3, List.forall_mem_append.mpr ⟨lw_r4, List.forall_mem_append.mpr ⟨lw_r5, List.forall_mem_append.mpr ⟨lw_r6, List.forall_mem_append.mpr ⟨lw_r7, lw_r8⟩⟩⟩⟩⟩⟩⟩
end
section
/-! ===== BEGIN words of one list among another's, by their places ===== -/
theorem goodIn_r {big : List Cond} (ws : List Cond) (ps : List Nat) (hp : ws = ps.filterMap (fun i => big[i]?)) (h : ws.all goodWord = true) : GoodIn big ws := by
  intro w hw
  have h1 := List.all_eq_true.mp h w hw
  rw [hp] at hw
  obtain ⟨i, -, hi⟩ := List.mem_filterMap.mp hw
  have hm : w ∈ big := by first | exact List.mem_of_getElem? hi | exact List.getElem?_mem hi
  exact ⟨hm, good_of_word h1⟩
theorem goodIn_app {big a b : List Cond} (ha : GoodIn big a) (hb : GoodIn big b) : GoodIn big (a ++ b) := fun w h => (List.mem_append.mp h).elim (ha w) (hb w)
theorem goodIn_ca {big a b : List Cond} {c : Cond} (ha : GoodIn big (c :: a)) (hb : GoodIn big b) : GoodIn big (c :: (a ++ b)) := fun w h => (List.mem_cons.mp h).elim (fun e => ha w (List.mem_cons.mpr (Or.inl e))) (fun h => (List.mem_append.mp h).elim (fun h => ha w (List.mem_cons.mpr (Or.inr h))) (hb w))
theorem goodIn_sub {big ws : List Cond} (hm : ∀ w ∈ ws, w ∈ big) (h : ws.all goodWord = true) : GoodIn big ws := fun w hw => ⟨hm w hw, good_of_word (List.all_eq_true.mp h w hw)⟩
/-! ===== END ===== -/

/-! ===== BEGIN exceptions that leave a method, and their catching by the caller (launches without stack traces) ===== -/
section VXA
/-! The laws vx_back, vx_callV, vx_callS, vx_callSW, vx_throw0, vx_throwS follow proofs of the library, with one case more: JvmDerived/Free/Laws.lean (Back.of_free), Shelf42/LK1.lean (callV, callS), Shelf/KitTraced.lean (throwNew0V, throwNewS). -/
/-- where a method has thrown q: the class by its name, the cell, what was written, the world -/
def vx_T (XC : String → State → State → Prop) (st : State) (q : Addr) (t : State) (mc ms : Nat) (free : Addr → Prop) : Prop :=
  ∃ (E : String) (ce : Cell) (L : List Loc), XC E st t ∧ t.heap[q]? = some ce ∧ ce.vm = .none ∧ st.vm.findClass E = some ce.cls ∧ st.WarmedH t.vm ∧ st.sameButNew ({ t with vm := st.vm } : State) L mc ms ∧ ∀ z ∈ L, free z.base
def vx_Q (Qc : Array Value → State → Outcome → State → Prop) (XC : String → State → State → Prop) (mc ms : Nat) (free : Addr → Prop) : Array Value → State → Outcome → State → Prop := fun a st o t =>
  (Qc a st o t ∧ ∃ L, FrameEnd st o t L mc ms ∧ ∀ q ∈ L, free q.base) ∨ ∃ q, o = .threw q ∧ vx_T XC st q t mc ms free
/-- a callee that returns or throws -/
def vx_Met (l : Launch) (y : MethodName) (ws : List Cond) (rm : Room) (Pc : Array Value → State → Prop) (Qc : Array Value → State → Outcome → State → Prop) (XC : String → State → State → Prop) (mc ms : Nat) (free : Addr → Prop) : Prop :=
  MetFree l y (headSpec ws rm) Pc (fun _ _ _ _ _ => True) (vx_Q Qc XC mc ms free)
def vx_Post (XC : String → State → State → Prop) (mc ms : Nat) (free : Addr → Prop) : Pt → Array Value → Addr → Pt → Prop := fun A a q B =>
  ∃ (g : JFrame) (mk : MethodId) (t : State) (L : List Loc) (E : String) (ce : Cell), B.U.heap = t.heap ∧ B.U.vm = t.vm ∧ XC E (A.U.calling g mk a) t ∧ t.heap[q]? = some ce ∧ ce.vm = .none ∧ A.U.vm.findClass E = some ce.cls ∧ B.locs = A.locs ++ L ∧ (∀ z ∈ L, free z.base) ∧ B.cells = A.cells + mc ∧ B.slots = A.slots + ms
def vx_Back (l : Launch) (R : Room) (p : Program) (e : Env) (below : List Frame) (s : State) (sargs : Array Value) (y : MethodName) (len W9 : Nat)
    (Pre : Pt → Array Value → Prop) (Post : Pt → Array Value → Option Value → Pt → Prop) (PostX : Pt → Array Value → Addr → Pt → Prop) : Prop :=
  ∀ (m : MethodId) (meth : Method) (c : Code) (A : Pt) (g : JFrame) (ig : Instr) (mk : MethodId) (a : Array Value),
    Stand p l e R s m sargs below meth c A.U A.locs A.cells A.slots → g.method = m → g.locals.size = c.maxLocals → decode c.code g.pc = .ok (ig, len) →
    2 * g.monitorRoom + (g.stack.map fun v => v.category).sum ≤ W9 → A.U.methodNamed? y = some mk → Pre A a →
    (∃ (v : Option Value) (B : Pt), Stand p l e R s m sargs below meth c B.U B.locs B.cells B.slots ∧ Post A a v B ∧
      Steps p.tables e below (doInvoke e (A.U.setTop g) [] mk a).1 (B.U.setTop { g with pc := g.pc + len, stack := v.toList ++ g.stack })) ∨
    (∃ (q : Addr) (B : Pt), Stand p l e R s m sargs below meth c B.U B.locs B.cells B.slots ∧ PostX A a q B ∧
      Steps p.tables e below (doInvoke e (A.U.setTop g) [] mk a).1 ((B.U.setTop g).pushFrame (.throwing q)))
section Payer
variable {l : Launch} {R : Room} {p : Program} {e : Env} {below : List Frame} {s : State} {sargs : Array Value} {y : MethodName} {len W9 : Nat}
theorem vx_back {ws : List Cond} {rm : Room} {Pc : Array Value → State → Prop} {Qc : Array Value → State → Outcome → State → Prop} {XC : String → State → State → Prop} {mc ms : Nat} {free : Addr → Prop} {bytes : ByteArray} {maxL : Nat} {ret : Option FieldType}
    (hM : vx_Met l y ws rm Pc Qc XC mc ms free) (hblind : FrameBlind Pc) (hrc : rm.cells = mc) (hrs : rm.slots = ms)
    (hframes : rm.frames + 1 ≤ R.frames) (hlocals : W9 + (maxL + 11) + rm.locals ≤ R.locals)
    (hws : ∀ w ∈ ws, ∀ a' U, s.WarmedH U.vm → w.before a' U = true) (hcode : Cond.code y bytes maxL ret ∈ ws) (hinit : ∀ a' U, s.WarmedH U.vm → (Cond.initialized y.cls).before a' U = true) :
    vx_Back l R p e below s sargs y len W9 (PreOf R mc ms Pc) (PostOf Qc mc ms free) (vx_Post XC mc ms free) := by
  intro m meth c A g ig mk a X hg hsize hdg hW hn hp
  have h1 : (headSpec ws rm).pre.before a A.U = true := atoms_intro fun w hw => hws w hw _ _ X.warmed
  have h2 : (Cond.code y bytes maxL ret).before a A.U = true := hws _ hcode _ _ X.warmed
  have h3 : (Cond.initialized y.cls).before a A.U = true := hinit _ _ X.warmed
  have h4 : A.cells + (headSpec ws rm).room.cells ≤ R.cells := by rw [show (headSpec ws rm).room.cells = mc from hrc]; exact hp.1
  have h5 : A.slots + (headSpec ws rm).room.slots ≤ R.slots := by rw [show (headSpec ws rm).room.slots = ms from hrs]; exact hp.2.1
  have hPc : Pc a (A.U.calling g mk a) := hblind _ _ _ _ hp.2.2
  obtain ⟨U, Ls, c0, s0⟩ := A
  dsimp only [Pt.U, Pt.locs, Pt.cells, Pt.slots] at h1 h2 h3 h4 h5 X hn hPc ⊢
  obtain ⟨methY, cY, hmY, hcY, -, hlY, -, -, -, -⟩ := Cond.code_spec hn h2
  obtain ⟨kY, hkY, -⟩ := className_of_methodNamed hn
  have hinitY : kY.init = .initialized := Cond.initialized_spec (findClass_of_methodNamed hn) hkY h3
  have h : At U g.method c below := by rw [hg]; exact X.here
  have hlocals9 : W9 + (maxL + 11) + (headSpec ws rm).room.locals ≤ R.locals := hlocals
  have happ : (headSpec ws rm).appliesLoose y e.platform (U.calling g mk a) = true :=
    Spec.appliesLoose_calling (g := g) h hdg hn hkY hinitY
      (X.room_calling (g := g) (R' := (headSpec ws rm).room) hsize hmY hcY hframes (by rw [hlY]; omega) h4 h5) h1
  obtain ⟨mid, hmid⟩ := h.above
  have hfr : (U.setTop g).frames = (.java g :: mid) ++ below := by rw [State.frames_setTop' g h.top, hmid]; rfl
  obtain ⟨o, s₂, hsteps, -, hend, hq⟩ := Steps.callFree hM p X.admits X.cas X.clock (acts := []) hfr happ hPc trivial
  have hq' : vx_Q Qc XC mc ms free a (U.calling g mk a) o s₂ := hq
  rw [State.frames_setTop' g h.top] at hend
  obtain ⟨g₀, hg0⟩ := Option.isSome_iff_exists.mp h.top
  obtain ⟨r, hr⟩ := State.topJava?_eq_some.mp hg0
  have hr' : (({ U with heap := s₂.heap, slotsUsed := s₂.slotsUsed } : State).setVm s₂.vm).frames = .java g₀ :: r := hr
  rcases hq' with ⟨hqc, L, hfe, hL⟩ | ⟨q, rfl, E, ce, L, hx, hce, hcv, hcl, hW₂, hsm, hL⟩
  · obtain ⟨⟨v, rfl⟩, hW₂, e2, q2, q3, q4, q5, q6⟩ := id hfe
    have e3 : s₂ = ({ (U.calling g mk a).setFrames s₂.frames with heap := s₂.heap, slotsUsed := s₂.slotsUsed } : State).setVm s₂.vm := by
      have : s₂ = ({ s₂ with vm := (U.calling g mk a).vm } : State).setVm s₂.vm := rfl
      rw [e2] at this
      exact this
    obtain ⟨c₂, i₂, len₂, hc₂, hd₂, hf₂⟩ := hend
    have hW' : U.WarmedH s₂.vm := hW₂
    have hcc : c₂ = c := by
      have h1 : s₂.code? g.method = U.code? g.method := by
        rw [State.code?_eq, State.code?_eq, hW'.alike.method?]
      exact Option.some.inj (hc₂.symm.trans (h1.trans h.code))
    subst hcc
    have hlen : len₂ = len := by rw [hdg] at hd₂; cases hd₂; rfl
    subst hlen
    have hs₂ : s₂ = (({ U with heap := s₂.heap, slotsUsed := s₂.slotsUsed } : State).setVm s₂.vm).setTop { g with pc := g.pc + len₂, stack := v.toList ++ g.stack } := by
      refine e3.trans ?_
      rw [hf₂, State.calling_eq h.top, State.setFrames_setFrames, State.setTop_of_frames _ hr', hr]
      rfl
    have hsame : U.sameButNew ({ U with heap := s₂.heap, slotsUsed := s₂.slotsUsed } : State) L mc ms := by
      refine ⟨?_, q2, q3, q4, q5, q6⟩
      obtain ⟨t, ht, -⟩ := State.frames_cons hr
      show ({ U with heap := s₂.heap, slotsUsed := s₂.slotsUsed } : State) = { U.setFrames U.frames with heap := s₂.heap, slotsUsed := s₂.slotsUsed }
      rw [State.setFrames_self ht]
    subst hg
    refine Or.inl ⟨v, ⟨(({ U with heap := s₂.heap, slotsUsed := s₂.slotsUsed } : State).setVm s₂.vm), Ls ++ L, c0 + mc, s0 + ms⟩,
      ⟨X.admits, X.cas, X.clock, X.frames, X.room, X.hears, X.method, X.code, (X.here.setHeapUsed s₂.heap s₂.slotsUsed).setVm hW'.alike, X.tail, State.WarmedH.trans X.warmed hW', X.limits, X.bytes, X.same.trans (hsame.setVm s.vm)⟩,
      ⟨g, mk, s₂, L, rfl, rfl, hqc, rfl, hL, rfl, rfl⟩, ?_⟩
    show Steps p.tables e below _ ((({ U with heap := s₂.heap, slotsUsed := s₂.slotsUsed } : State).setVm s₂.vm).setTop { g with pc := g.pc + len₂, stack := v.toList ++ g.stack })
    rw [← hs₂]
    exact hsteps
  · obtain ⟨e2, q2, q3, q4, q5, q6⟩ := id hsm
    have e3 : s₂ = ({ (U.calling g mk a).setFrames s₂.frames with heap := s₂.heap, slotsUsed := s₂.slotsUsed } : State).setVm s₂.vm := by
      have : s₂ = ({ s₂ with vm := (U.calling g mk a).vm } : State).setVm s₂.vm := rfl
      rw [e2] at this
      exact this
    have hf₂ : s₂.frames = .throwing q :: .java g :: U.frames.tail := hend
    have hW' : U.WarmedH s₂.vm := hW₂
    have hs₂ : s₂ = ((({ U with heap := s₂.heap, slotsUsed := s₂.slotsUsed } : State).setVm s₂.vm).setTop g).pushFrame (.throwing q) := by
      refine e3.trans ?_
      rw [hf₂, State.calling_eq h.top, State.setFrames_setFrames, State.pushFrame, State.frames_setTop _ hr', State.setTop_of_frames _ hr', State.setFrames_setFrames, hr]
      rfl
    have hsame : U.sameButNew ({ U with heap := s₂.heap, slotsUsed := s₂.slotsUsed } : State) L mc ms := by
      refine ⟨?_, q2, q3, q4, q5, q6⟩
      obtain ⟨t, ht, -⟩ := State.frames_cons hr
      show ({ U with heap := s₂.heap, slotsUsed := s₂.slotsUsed } : State) = { U.setFrames U.frames with heap := s₂.heap, slotsUsed := s₂.slotsUsed }
      rw [State.setFrames_self ht]
    subst hg
    refine Or.inr ⟨q, ⟨(({ U with heap := s₂.heap, slotsUsed := s₂.slotsUsed } : State).setVm s₂.vm), Ls ++ L, c0 + mc, s0 + ms⟩,
      ⟨X.admits, X.cas, X.clock, X.frames, X.room, X.hears, X.method, X.code, (X.here.setHeapUsed s₂.heap s₂.slotsUsed).setVm hW'.alike, X.tail, State.WarmedH.trans X.warmed hW', X.limits, X.bytes, X.same.trans (hsame.setVm s.vm)⟩,
      ⟨g, mk, s₂, L, E, ce, rfl, rfl, hx, hce, hcv, hcl, rfl, hL, rfl, rfl⟩, ?_⟩
    show Steps p.tables e below _ (((({ U with heap := s₂.heap, slotsUsed := s₂.slotsUsed } : State).setVm s₂.vm).setTop g).pushFrame (.throwing q))
    rw [← hs₂]
    exact hsteps
end Payer
section Calls
variable {p : Program} {l : Launch} {e : Env} {R : Room} {s : State} {m : MethodId} {args : Array Value} {below : List Frame} {meth : Method} {c : Code} {T : State} {locs : List Loc} {cells slots : Nat}
theorem vx_callV (X : Stand p l e R s m args below meth c T locs cells slots) (hexec : p.tables.exec = Jvm.exec) {own C : String} {index : Nat} {y : MethodName} {bytes : ByteArray} {maxL : Nat} {ret : Option FieldType}
    (hown : s.vm.findClass own = some m.cls) (hlink : (Cond.methodLink own index y).before args s = true) (hinst : (Cond.instanceMethod y).before args s = true) (hsel : (Cond.selects C y y).before args s = true)
    (hcode : (Cond.code y bytes maxL ret).before args s = true) (hy : y.cls ≠ "java/lang/invoke/MethodHandle" ∧ y.cls ≠ "java/lang/invoke/VarHandle")
    {W9 : Nat} {Pre : Pt → Array Value → Prop} {Post : Pt → Array Value → Option Value → Pt → Prop} {PostX : Pt → Array Value → Addr → Pt → Prop} (hK : vx_Back l R p e below s args y 3 W9 Pre Post PostX)
    {b : Addr} {cellB : Cell} (hcell : T.heap[b]? = some cellB) (hobj : cellB.vm.isStatics = false) (hcls : s.vm.findClass C = some cellB.cls)
    {g : JFrame} (hg : g.method = m) (hsize : g.locals.size = c.maxLocals) {argsL rest : List Value} (hlen : ∀ sig, parseMethodDescriptor y.desc = some sig → argsL.length = sig.parameters.length)
    (hstack : g.stack = argsL.reverse ++ .ref b :: rest) (hW : 2 * g.monitorRoom + (rest.map fun v => v.category).sum ≤ W9) (hdg : decode c.code g.pc = .ok (.invokevirtual index, 3))
    (hpre : ∀ vm₁, s.WarmedH vm₁ → Pre ⟨T.setVm vm₁, locs, cells, slots⟩ (Value.ref b :: argsL).toArray) :
    (∃ (v : Option Value) (vm₁ : Vm) (B : Pt), s.WarmedH vm₁ ∧ Stand p l e R s m args below meth c B.U B.locs B.cells B.slots ∧ Post ⟨T.setVm vm₁, locs, cells, slots⟩ (Value.ref b :: argsL).toArray v B ∧
      ∀ target, Steps p.tables e below (B.U.setTop { g with pc := g.pc + 3, stack := v.toList ++ rest }) target → Steps p.tables e below (T.setTop g) target) ∨
    (∃ (q : Addr) (vm₁ : Vm) (B : Pt), s.WarmedH vm₁ ∧ Stand p l e R s m args below meth c B.U B.locs B.cells B.slots ∧ PostX ⟨T.setVm vm₁, locs, cells, slots⟩ (Value.ref b :: argsL).toArray q B ∧
      Steps p.tables e below (T.setTop g) ((B.U.setTop { g with stack := rest }).pushFrame (.throwing q))) := by
  obtain ⟨mk, methM, hnamed, hmethM, hstM, habM⟩ := Cond.instanceMethod_spec hinst
  obtain ⟨methM', cM, hmethM', -, -, -, -, -, -, hsigM⟩ := Cond.code_spec hnamed hcode
  cases hmethM.symm.trans hmethM'
  obtain ⟨c2, r2, m2, q1, q2, q3, q4, kP, hkP, hkPi⟩ := Cond.selects_spec hsel
  cases hcls.symm.trans q1
  cases (State.methodFound?_of_named hnamed hy).symm.trans q2
  cases hnamed.symm.trans q3
  have hselP : selectMethod e.platform s.vm cellB.cls mk = .method mk := by rw [Launch.admits_selectMethod X.admits]; exact q4
  obtain ⟨vm₁, X₁, hstep₁⟩ := X.invokevirtual hexec hown hlink hnamed hmethM hstM hkP hkPi hy (a := b) (cell := cellB) hcell
    (fun z h => by rw [h] at hobj; cases hobj) hselP hmethM habM hkP hkPi (g := g) hg (argsL := argsL) (rest := rest) (hlen _ hsigM) hstack hdg
  rcases hK m meth c ⟨T.setVm vm₁, locs, cells, slots⟩ { g with stack := rest } (.invokevirtual index) mk (Value.ref b :: argsL).toArray X₁ hg hsize hdg hW (X₁.named hnamed) (hpre vm₁ X₁.warmed) with ⟨v, B, X', hpost, hsteps⟩ | ⟨q, B, X', hpost, hsteps⟩
  · exact Or.inl ⟨v, vm₁, B, X₁.warmed, X', hpost, fun target h => hstep₁ _ fun acts => by rw [doInvoke_state]; exact hsteps.trans h⟩
  · exact Or.inr ⟨q, vm₁, B, X₁.warmed, X', hpost, hstep₁ _ fun acts => by rw [doInvoke_state]; exact hsteps⟩
theorem vx_callS (X : Stand p l e R s m args below meth c T locs cells slots) (hexec : p.tables.exec = Jvm.exec) {own : String} {index : Nat} {y : MethodName} {bytes : ByteArray} {maxL : Nat} {ret : Option FieldType}
    (hown : s.vm.findClass own = some m.cls) (hlink : (Cond.methodLink own index y).before args s = true) (hstat : (Cond.static y).before args s = true) (hinit : (Cond.initialized y.cls).before args s = true)
    (hcode : (Cond.code y bytes maxL ret).before args s = true) (hy : y.cls ≠ "java/lang/invoke/MethodHandle" ∧ y.cls ≠ "java/lang/invoke/VarHandle")
    {W9 : Nat} {Pre : Pt → Array Value → Prop} {Post : Pt → Array Value → Option Value → Pt → Prop} {PostX : Pt → Array Value → Addr → Pt → Prop} (hK : vx_Back l R p e below s args y 3 W9 Pre Post PostX)
    {g : JFrame} (hg : g.method = m) (hsize : g.locals.size = c.maxLocals) {argsL rest : List Value} (hlen : ∀ sig, parseMethodDescriptor y.desc = some sig → argsL.length = sig.parameters.length)
    (hstack : g.stack = argsL.reverse ++ rest) (hW : 2 * g.monitorRoom + (rest.map fun v => v.category).sum ≤ W9) (hdg : decode c.code g.pc = .ok (.invokestatic index, 3))
    (hpre : ∀ vm₁, s.WarmedH vm₁ → Pre ⟨T.setVm vm₁, locs, cells, slots⟩ argsL.toArray) :
    (∃ (v : Option Value) (vm₁ : Vm) (B : Pt), s.WarmedH vm₁ ∧ Stand p l e R s m args below meth c B.U B.locs B.cells B.slots ∧ Post ⟨T.setVm vm₁, locs, cells, slots⟩ argsL.toArray v B ∧
      ∀ target, Steps p.tables e below (B.U.setTop { g with pc := g.pc + 3, stack := v.toList ++ rest }) target → Steps p.tables e below (T.setTop g) target) ∨
    (∃ (q : Addr) (vm₁ : Vm) (B : Pt), s.WarmedH vm₁ ∧ Stand p l e R s m args below meth c B.U B.locs B.cells B.slots ∧ PostX ⟨T.setVm vm₁, locs, cells, slots⟩ argsL.toArray q B ∧
      Steps p.tables e below (T.setTop g) ((B.U.setTop { g with stack := rest }).pushFrame (.throwing q))) := by
  obtain ⟨mk, hnamed⟩ := Cond.code_named hcode
  obtain ⟨methM, cM, hmethM, -, -, -, -, -, -, hsigM⟩ := Cond.code_spec hnamed hcode
  have hstatic : methM.isStatic = true := Cond.static_spec hnamed hmethM hstat
  obtain ⟨kP, hkP, -⟩ := className_of_methodNamed hnamed
  have hinitP : kP.init = .initialized := Cond.initialized_spec (findClass_of_methodNamed hnamed) hkP hinit
  obtain ⟨vm₁, X₁, hstep₁⟩ := X.invokestatic hexec hown hlink hnamed hmethM hstatic hkP hinitP hy (g := g) hg (argsL := argsL) (rest := rest) (hlen _ hsigM) hstack hdg
  rcases hK m meth c ⟨T.setVm vm₁, locs, cells, slots⟩ { g with stack := rest } (.invokestatic index) mk argsL.toArray X₁ hg hsize hdg hW (X₁.named hnamed) (hpre vm₁ X₁.warmed) with ⟨v, B, X', hpost, hsteps⟩ | ⟨q, B, X', hpost, hsteps⟩
  · exact Or.inl ⟨v, vm₁, B, X₁.warmed, X', hpost, fun target h => hstep₁ _ fun acts => by rw [doInvoke_state]; exact hsteps.trans h⟩
  · exact Or.inr ⟨q, vm₁, B, X₁.warmed, X', hpost, hstep₁ _ fun acts => by rw [doInvoke_state]; exact hsteps⟩
end Calls
theorem vx_cls {s : State} {T : State} {vm₁ : Vm} {E : String} {k : ClassId} (hW : s.WarmedH vm₁) (h : (T.setVm vm₁).vm.findClass E = some k) : s.vm.findClass E = some k := by
  have h1 : vm₁.findClass E = some k := h
  rw [hW.alike.findClass] at h1
  exact h1
/-- the method's frame g, with q thrown over it -/
def vx_W (p : Program) (l : Launch) (e : Env) (R : Room) (s : State) (m : MethodId) (args : Array Value) (below : List Frame) (meth : Method) (c : Code) (H : Heap) (locs : List Loc) (cells slots : Nat) (Q : State → Prop) (g : JFrame) (q : Addr) : Prop :=
  ∀ T : State, T.heap = H → Stand p l e R s m args below meth c T locs cells slots → ∃ t, Steps p.tables e below ((T.setTop g).pushFrame (.throwing q)) t ∧ Q t
def vx_Run (p : Program) (l : Launch) (e : Env) (R : Room) (s : State) (m : MethodId) (args : Array Value) (below : List Frame) (meth : Method) (c : Code) (H : Heap) (locs : List Loc) (cells slots mc ms : Nat) (g : JFrame) (rest : List Value) (Qa : State → Outcome → State → Prop) (XC : String → State → State → Prop) (free : Addr → Prop) : Prop :=
  ∀ T : State, T.heap = H → Stand p l e R s m args below meth c T locs cells slots →
    (∃ (v : Option Value) (st₀ t T' : State) (L : List Loc), st₀.heap = H ∧ Stand p l e R s m args below meth c T' (locs ++ L) (cells + mc) (slots + ms) ∧ (∀ q ∈ L, free q.base) ∧ T'.heap = t.heap ∧ T'.vm = t.vm ∧ Qa st₀ (.returned v) t ∧
      Goes p e below T g T' { g with pc := g.pc + 3, stack := v.toList ++ rest }) ∨
    (∃ (q : Addr) (st₀ t T' : State) (L : List Loc) (E : String) (ce : Cell), st₀.heap = H ∧ Stand p l e R s m args below meth c T' (locs ++ L) (cells + mc) (slots + ms) ∧ (∀ z ∈ L, free z.base) ∧ T'.heap = t.heap ∧ T'.vm = t.vm ∧ XC E st₀ t ∧ t.heap[q]? = some ce ∧ ce.vm = .none ∧ s.vm.findClass E = some ce.cls ∧
      Steps p.tables e below (T.setTop g) ((T'.setTop { g with stack := rest }).pushFrame (.throwing q)))
def vx_X {S : Type} (px : S → Prop) (B : String → S → State → Prop) (A : Nat → Prop) : String → State → State → Prop := fun E st t => ∃ u : S, px u ∧ B E u t ∧ va_F A st t
section Runs
variable {p : Program} {l : Launch} {e : Env} {R : Room} {s : State} {m : MethodId} {args : Array Value} {below : List Frame} {meth : Method} {c : Code} {H : Heap} {locs : List Loc} {cells slots : Nat}
variable {y : MethodName} {bytes cc : ByteArray} {maxL nL mc ms n index : Nat} {ret : Option FieldType} {ws : List Cond} {rm : Room} {Pc : Array Value → State → Prop} {Qc : Array Value → State → Outcome → State → Prop} {XC : String → State → State → Prop} {free : Addr → Prop} {Ts : List Cond} {own C : String} {b : Addr} {As rest : List Value} {g : JFrame}
theorem vx_callBack (cb : CallB R s args own index y bytes maxL ret ws rm mc ms n) (hM : vx_Met l y ws rm Pc Qc XC mc ms free) (hbl : FrameBlind Pc) : vx_Back l R p e below s args y 3 8 (PreOf R mc ms Pc) (PostOf Qc mc ms free) (vx_Post XC mc ms free) := by
  obtain ⟨hrc, hrs, hfr, hlo, hws, hcw, -, hini, -⟩ := cb
  exact vx_back (bytes := bytes) (maxL := maxL) (ret := ret) hM hbl hrc hrs hfr hlo hws hcw (fun a' U hW => word_at hW (Or.inl (by first | rfl | simp [Cond.onTables, Cond.keeps, Cond.steady])) hini)
theorem vx_runV (S : CallFix p m c cc nL s args Ts own) (hM : vx_Met l y ws rm Pc Qc XC mc ms free) (cw : CallW R s args own C index y bytes maxL ret ws rm mc ms n) (hp : PreV s H C b Pc As)
    (hg : g.method = m) (hn : As.length = n) (hsize : g.locals.size = nL) (hstack : g.stack = As.reverse ++ .ref b :: rest) (hW : 2 * g.monitorRoom + (rest.map fun v => v.category).sum ≤ 8) (hdg : decode cc g.pc = .ok (.invokevirtual index, 3)) (hf : cells + mc ≤ R.cells ∧ slots + ms ≤ R.slots) :
    vx_Run p l e R s m args below meth c H locs cells slots mc ms g rest (Qc (Value.ref b :: As).toArray) XC free := by
  have hK : vx_Back l R p e below s args y 3 8 (PreOf R mc ms Pc) (PostOf Qc mc ms free) (vx_Post XC mc ms free) := vx_callBack cw.1 hM hp.1
  obtain ⟨⟨-, -, -, -, -, -, hcode, -, hy, hlen, hl⟩, hin, hse⟩ := cw
  obtain ⟨hx, hb, hml, ho, -⟩ := S
  obtain ⟨-, ⟨cellB, hcB, hoB, hclB⟩, hPc⟩ := hp
  intro T hT X
  rcases vx_callV X hx (C := C) (bytes := bytes) (maxL := maxL) (ret := ret) ho hl hin hse hcode hy hK (by rw [hT]; exact hcB) hoB hclB hg (hsize.trans hml.symm) (argsL := As) (rest := rest) (fun sig h => hn.trans (hlen sig h)) hstack hW (by rw [hb]; exact hdg)
    (fun vm₁ hW₁ => ⟨hf.1, hf.2, hPc (T.setVm vm₁) hT hW₁⟩) with ⟨v, vm₁, ⟨U', l2, c2, s2⟩, hW₁, X', ⟨g', mk, t, L, e1, e2, hq, h1, hL, h2, h3⟩, st⟩ | ⟨q, vm₁, ⟨U', l2, c2, s2⟩, hW₁, X', ⟨g', mk, t, L, E, ce, e1, e2, hq, hce, hcv, hcl, h1, hL, h2, h3⟩, st⟩
  · dsimp only [Pt.U, Pt.locs, Pt.cells, Pt.slots] at X' e1 e2 h1 h2 h3 st
    subst h1; subst h2; subst h3
    exact Or.inl ⟨v, (T.setVm vm₁).calling g' mk (Value.ref b :: As).toArray, t, U', L, hT, X', hL, e1, e2, hq, st⟩
  · dsimp only [Pt.U, Pt.locs, Pt.cells, Pt.slots] at X' e1 e2 h1 h2 h3 st hcl
    subst h1; subst h2; subst h3
    exact Or.inr ⟨q, (T.setVm vm₁).calling g' mk (Value.ref b :: As).toArray, t, U', L, E, ce, hT, X', hL, e1, e2, hq, hce, hcv, vx_cls hW₁ hcl, st⟩
theorem vx_runS (S : CallFix p m c cc nL s args Ts own) (hM : vx_Met l y ws rm Pc Qc XC mc ms free) (cw : CallB R s args own index y bytes maxL ret ws rm mc ms n ∧ (Cond.static y).before args s = true) (hp : PreS s H Pc As)
    (hg : g.method = m) (hn : As.length = n) (hsize : g.locals.size = nL) (hstack : g.stack = As.reverse ++ rest) (hW : 2 * g.monitorRoom + (rest.map fun v => v.category).sum ≤ 8) (hdg : decode cc g.pc = .ok (.invokestatic index, 3)) (hf : cells + mc ≤ R.cells ∧ slots + ms ≤ R.slots) :
    vx_Run p l e R s m args below meth c H locs cells slots mc ms g rest (Qc As.toArray) XC free := by
  have hK : vx_Back l R p e below s args y 3 8 (PreOf R mc ms Pc) (PostOf Qc mc ms free) (vx_Post XC mc ms free) := vx_callBack cw.1 hM hp.1
  obtain ⟨⟨-, -, -, -, -, -, hcode, hini, hy, hlen, hl⟩, hstt⟩ := cw
  obtain ⟨hx, hb, hml, ho, -⟩ := S
  intro T hT X
  rcases vx_callS X hx (bytes := bytes) (maxL := maxL) (ret := ret) ho hl hstt hini hcode hy hK hg (hsize.trans hml.symm) (argsL := As) (rest := rest) (fun sig h => hn.trans (hlen sig h)) hstack hW (by rw [hb]; exact hdg)
    (fun vm₁ hW₁ => ⟨hf.1, hf.2, hp.2 (T.setVm vm₁) hT hW₁⟩) with ⟨v, vm₁, ⟨U', l2, c2, s2⟩, hW₁, X', ⟨g', mk, t, L, e1, e2, hq, h1, hL, h2, h3⟩, st⟩ | ⟨q, vm₁, ⟨U', l2, c2, s2⟩, hW₁, X', ⟨g', mk, t, L, E, ce, e1, e2, hq, hce, hcv, hcl, h1, hL, h2, h3⟩, st⟩
  · dsimp only [Pt.U, Pt.locs, Pt.cells, Pt.slots] at X' e1 e2 h1 h2 h3 st
    subst h1; subst h2; subst h3
    exact Or.inl ⟨v, (T.setVm vm₁).calling g' mk As.toArray, t, U', L, hT, X', hL, e1, e2, hq, st⟩
  · dsimp only [Pt.U, Pt.locs, Pt.cells, Pt.slots] at X' e1 e2 h1 h2 h3 st hcl
    subst h1; subst h2; subst h3
    exact Or.inr ⟨q, (T.setVm vm₁).calling g' mk As.toArray, t, U', L, E, ce, hT, X', hL, e1, e2, hq, hce, hcv, vx_cls hW₁ hcl, st⟩
end Runs
section Rows
variable {p : Program} {l : Launch} {e : Env} {R : Room} {s : State} {m : MethodId} {args : Array Value} {below : List Frame} {meth : Method} {c : Code} {H : Heap} {locs : List Loc} {cells slots : Nat} {Q : State → Prop}
variable {mc ms : Nat} {free : Addr → Prop} {A0 A1 : Nat → Prop} {H0 : Heap} {a : Array Value} {pc : Nat} {ls : Array Slot} {st0 rest : List Value}
theorem vx_keep {st₀ t T' : State} {L : List Loc} (h0 : st₀.heap = H) (e1 : T'.heap = t.heap) (hS : va_S A0 H0 H locs) (hA : ∀ q, q < H.size → A1 q → A0 q) (hf : ∀ q, free q → A0 q) (hL : ∀ q ∈ L, free q.base) (hF : va_F A1 st₀ t) :
    H.size ≤ T'.heap.size ∧ (∀ q : Nat, q < H.size → ¬ A1 q → T'.heap[q]? = H[q]?) ∧ va_S A0 H0 T'.heap (locs ++ L) := by
  obtain ⟨hz, hk⟩ := hF
  rw [h0] at hz hk
  exact ⟨by rw [e1]; exact hz, fun q h1 h2 => by rw [e1]; exact hk q h1 h2,
    ⟨Nat.le_trans hS.1 (by rw [e1]; exact hz), fun q h1 h2 => by rw [e1, hk q (Nat.lt_of_lt_of_le h1 hS.1) (fun z => h2 (hA q (Nat.lt_of_lt_of_le h1 hS.1) z))]; exact hS.2.1 q h1 h2, fun q hq => by
      rcases List.mem_append.mp hq with h | h
      · exact hS.2.2 q h
      · exact hf _ (hL q h)⟩⟩
theorem vx_calli {S SX : Type} {post : Int32 → S → Prop} {px : SX → Prop} {B : S → State → Prop} {BX : String → SX → State → Prop} {AX : Nat → Prop} (hr : vx_Run p l e R s m args below meth c H locs cells slots mc ms (F0 m pc ls st0) rest (va_Qi post B A1 a) (vx_X px BX AX) free) (hS : va_S A0 H0 H locs) (hA : ∀ q, q < H.size → A1 q → A0 q) (hf : ∀ q, free q → A0 q) (hAX : ∀ q, q < H.size → AX q → A0 q)
    (kx : ∀ (E : String) (ce : Cell) (q9 : Addr) (u : SX) (t : State) (H1 : Heap) (locs1 : List Loc), t.heap = H1 → s.vm.Alike t.vm → px u → BX E u t → H.size ≤ H1.size → (∀ q : Nat, q < H.size → ¬ AX q → H1[q]? = H[q]?) → va_S A0 H0 H1 locs1 → H1[q9]? = some ce → ce.vm = .none → s.vm.findClass E = some ce.cls → vx_W p l e R s m args below meth c H1 locs1 (cells + mc) (slots + ms) Q (F0 m pc ls rest) q9)
    (kk : ∀ (r : Int32) (u : S) (t : State) (H1 : Heap) (locs1 : List Loc), t.heap = H1 → s.vm.Alike t.vm → post r u → B u t → H.size ≤ H1.size → (∀ q : Nat, q < H.size → ¬ A1 q → H1[q]? = H[q]?) → va_S A0 H0 H1 locs1 → W p l e R s m args below meth c H1 locs1 (cells + mc) (slots + ms) Q (F0 m (pc + 3) ls (.int r :: rest))) : W p l e R s m args below meth c H locs cells slots Q (F0 m pc ls st0) := by
  intro T hT X
  rcases hr T hT X with ⟨v, st₀, t, T', L, h0, X', hL, e1, e2, ⟨⟨r, u, hv, hp, hb⟩, hF⟩, st⟩ | ⟨q, st₀, t, T', L, E, ce, h0, X', hL, e1, e2, ⟨u, hp, hb, hF⟩, hce, hcv, hcl, st⟩
  · cases hv
    obtain ⟨k1, k2, k3⟩ := vx_keep h0 e1 hS hA hf hL hF
    obtain ⟨t2, a1, b1⟩ := kk r u t T'.heap (locs ++ L) e1.symm (by rw [← e2]; exact X'.warmed.alike) hp hb k1 k2 k3 T' rfl X'
    exact ⟨t2, st t2 a1, b1⟩
  · obtain ⟨k1, k2, k3⟩ := vx_keep h0 e1 hS hAX hf hL hF
    obtain ⟨t2, a1, b1⟩ := kx E ce q u t T'.heap (locs ++ L) e1.symm (by rw [← e2]; exact X'.warmed.alike) hp hb k1 k2 k3 (by rw [e1]; exact hce) hcv hcl T' rfl X'
    exact ⟨t2, st.trans a1, b1⟩
theorem vx_calll {S SX : Type} {post : Int64 → S → Prop} {px : SX → Prop} {B : S → State → Prop} {BX : String → SX → State → Prop} {AX : Nat → Prop} (hr : vx_Run p l e R s m args below meth c H locs cells slots mc ms (F0 m pc ls st0) rest (va_Ql post B A1 a) (vx_X px BX AX) free) (hS : va_S A0 H0 H locs) (hA : ∀ q, q < H.size → A1 q → A0 q) (hf : ∀ q, free q → A0 q) (hAX : ∀ q, q < H.size → AX q → A0 q)
    (kx : ∀ (E : String) (ce : Cell) (q9 : Addr) (u : SX) (t : State) (H1 : Heap) (locs1 : List Loc), t.heap = H1 → s.vm.Alike t.vm → px u → BX E u t → H.size ≤ H1.size → (∀ q : Nat, q < H.size → ¬ AX q → H1[q]? = H[q]?) → va_S A0 H0 H1 locs1 → H1[q9]? = some ce → ce.vm = .none → s.vm.findClass E = some ce.cls → vx_W p l e R s m args below meth c H1 locs1 (cells + mc) (slots + ms) Q (F0 m pc ls rest) q9)
    (kk : ∀ (r : Int64) (u : S) (t : State) (H1 : Heap) (locs1 : List Loc), t.heap = H1 → s.vm.Alike t.vm → post r u → B u t → H.size ≤ H1.size → (∀ q : Nat, q < H.size → ¬ A1 q → H1[q]? = H[q]?) → va_S A0 H0 H1 locs1 → W p l e R s m args below meth c H1 locs1 (cells + mc) (slots + ms) Q (F0 m (pc + 3) ls (.long r :: rest))) : W p l e R s m args below meth c H locs cells slots Q (F0 m pc ls st0) := by
  intro T hT X
  rcases hr T hT X with ⟨v, st₀, t, T', L, h0, X', hL, e1, e2, ⟨⟨r, u, hv, hp, hb⟩, hF⟩, st⟩ | ⟨q, st₀, t, T', L, E, ce, h0, X', hL, e1, e2, ⟨u, hp, hb, hF⟩, hce, hcv, hcl, st⟩
  · cases hv
    obtain ⟨k1, k2, k3⟩ := vx_keep h0 e1 hS hA hf hL hF
    obtain ⟨t2, a1, b1⟩ := kk r u t T'.heap (locs ++ L) e1.symm (by rw [← e2]; exact X'.warmed.alike) hp hb k1 k2 k3 T' rfl X'
    exact ⟨t2, st t2 a1, b1⟩
  · obtain ⟨k1, k2, k3⟩ := vx_keep h0 e1 hS hAX hf hL hF
    obtain ⟨t2, a1, b1⟩ := kx E ce q u t T'.heap (locs ++ L) e1.symm (by rw [← e2]; exact X'.warmed.alike) hp hb k1 k2 k3 (by rw [e1]; exact hce) hcv hcl T' rfl X'
    exact ⟨t2, st.trans a1, b1⟩
theorem vx_callf {S SX : Type} {post : UInt32 → S → Prop} {px : SX → Prop} {B : S → State → Prop} {BX : String → SX → State → Prop} {AX : Nat → Prop} (hr : vx_Run p l e R s m args below meth c H locs cells slots mc ms (F0 m pc ls st0) rest (va_Qf post B A1 a) (vx_X px BX AX) free) (hS : va_S A0 H0 H locs) (hA : ∀ q, q < H.size → A1 q → A0 q) (hf : ∀ q, free q → A0 q) (hAX : ∀ q, q < H.size → AX q → A0 q)
    (kx : ∀ (E : String) (ce : Cell) (q9 : Addr) (u : SX) (t : State) (H1 : Heap) (locs1 : List Loc), t.heap = H1 → s.vm.Alike t.vm → px u → BX E u t → H.size ≤ H1.size → (∀ q : Nat, q < H.size → ¬ AX q → H1[q]? = H[q]?) → va_S A0 H0 H1 locs1 → H1[q9]? = some ce → ce.vm = .none → s.vm.findClass E = some ce.cls → vx_W p l e R s m args below meth c H1 locs1 (cells + mc) (slots + ms) Q (F0 m pc ls rest) q9)
    (kk : ∀ (r : UInt32) (u : S) (t : State) (H1 : Heap) (locs1 : List Loc), t.heap = H1 → s.vm.Alike t.vm → post r u → B u t → H.size ≤ H1.size → (∀ q : Nat, q < H.size → ¬ A1 q → H1[q]? = H[q]?) → va_S A0 H0 H1 locs1 → W p l e R s m args below meth c H1 locs1 (cells + mc) (slots + ms) Q (F0 m (pc + 3) ls (.float r :: rest))) : W p l e R s m args below meth c H locs cells slots Q (F0 m pc ls st0) := by
  intro T hT X
  rcases hr T hT X with ⟨v, st₀, t, T', L, h0, X', hL, e1, e2, ⟨⟨r, u, hv, hp, hb⟩, hF⟩, st⟩ | ⟨q, st₀, t, T', L, E, ce, h0, X', hL, e1, e2, ⟨u, hp, hb, hF⟩, hce, hcv, hcl, st⟩
  · cases hv
    obtain ⟨k1, k2, k3⟩ := vx_keep h0 e1 hS hA hf hL hF
    obtain ⟨t2, a1, b1⟩ := kk r u t T'.heap (locs ++ L) e1.symm (by rw [← e2]; exact X'.warmed.alike) hp hb k1 k2 k3 T' rfl X'
    exact ⟨t2, st t2 a1, b1⟩
  · obtain ⟨k1, k2, k3⟩ := vx_keep h0 e1 hS hAX hf hL hF
    obtain ⟨t2, a1, b1⟩ := kx E ce q u t T'.heap (locs ++ L) e1.symm (by rw [← e2]; exact X'.warmed.alike) hp hb k1 k2 k3 (by rw [e1]; exact hce) hcv hcl T' rfl X'
    exact ⟨t2, st.trans a1, b1⟩
theorem vx_calld {S SX : Type} {post : UInt64 → S → Prop} {px : SX → Prop} {B : S → State → Prop} {BX : String → SX → State → Prop} {AX : Nat → Prop} (hr : vx_Run p l e R s m args below meth c H locs cells slots mc ms (F0 m pc ls st0) rest (va_Qd post B A1 a) (vx_X px BX AX) free) (hS : va_S A0 H0 H locs) (hA : ∀ q, q < H.size → A1 q → A0 q) (hf : ∀ q, free q → A0 q) (hAX : ∀ q, q < H.size → AX q → A0 q)
    (kx : ∀ (E : String) (ce : Cell) (q9 : Addr) (u : SX) (t : State) (H1 : Heap) (locs1 : List Loc), t.heap = H1 → s.vm.Alike t.vm → px u → BX E u t → H.size ≤ H1.size → (∀ q : Nat, q < H.size → ¬ AX q → H1[q]? = H[q]?) → va_S A0 H0 H1 locs1 → H1[q9]? = some ce → ce.vm = .none → s.vm.findClass E = some ce.cls → vx_W p l e R s m args below meth c H1 locs1 (cells + mc) (slots + ms) Q (F0 m pc ls rest) q9)
    (kk : ∀ (r : UInt64) (u : S) (t : State) (H1 : Heap) (locs1 : List Loc), t.heap = H1 → s.vm.Alike t.vm → post r u → B u t → H.size ≤ H1.size → (∀ q : Nat, q < H.size → ¬ A1 q → H1[q]? = H[q]?) → va_S A0 H0 H1 locs1 → W p l e R s m args below meth c H1 locs1 (cells + mc) (slots + ms) Q (F0 m (pc + 3) ls (.double r :: rest))) : W p l e R s m args below meth c H locs cells slots Q (F0 m pc ls st0) := by
  intro T hT X
  rcases hr T hT X with ⟨v, st₀, t, T', L, h0, X', hL, e1, e2, ⟨⟨r, u, hv, hp, hb⟩, hF⟩, st⟩ | ⟨q, st₀, t, T', L, E, ce, h0, X', hL, e1, e2, ⟨u, hp, hb, hF⟩, hce, hcv, hcl, st⟩
  · cases hv
    obtain ⟨k1, k2, k3⟩ := vx_keep h0 e1 hS hA hf hL hF
    obtain ⟨t2, a1, b1⟩ := kk r u t T'.heap (locs ++ L) e1.symm (by rw [← e2]; exact X'.warmed.alike) hp hb k1 k2 k3 T' rfl X'
    exact ⟨t2, st t2 a1, b1⟩
  · obtain ⟨k1, k2, k3⟩ := vx_keep h0 e1 hS hAX hf hL hF
    obtain ⟨t2, a1, b1⟩ := kx E ce q u t T'.heap (locs ++ L) e1.symm (by rw [← e2]; exact X'.warmed.alike) hp hb k1 k2 k3 (by rw [e1]; exact hce) hcv hcl T' rfl X'
    exact ⟨t2, st.trans a1, b1⟩
theorem vx_callv {S SX : Type} {post : S → Prop} {px : SX → Prop} {B : S → State → Prop} {BX : String → SX → State → Prop} {AX : Nat → Prop} (hr : vx_Run p l e R s m args below meth c H locs cells slots mc ms (F0 m pc ls st0) rest (va_Qv post B A1 a) (vx_X px BX AX) free) (hS : va_S A0 H0 H locs) (hA : ∀ q, q < H.size → A1 q → A0 q) (hf : ∀ q, free q → A0 q) (hAX : ∀ q, q < H.size → AX q → A0 q)
    (kx : ∀ (E : String) (ce : Cell) (q9 : Addr) (u : SX) (t : State) (H1 : Heap) (locs1 : List Loc), t.heap = H1 → s.vm.Alike t.vm → px u → BX E u t → H.size ≤ H1.size → (∀ q : Nat, q < H.size → ¬ AX q → H1[q]? = H[q]?) → va_S A0 H0 H1 locs1 → H1[q9]? = some ce → ce.vm = .none → s.vm.findClass E = some ce.cls → vx_W p l e R s m args below meth c H1 locs1 (cells + mc) (slots + ms) Q (F0 m pc ls rest) q9)
    (kk : ∀ (u : S) (t : State) (H1 : Heap) (locs1 : List Loc), t.heap = H1 → s.vm.Alike t.vm → post u → B u t → H.size ≤ H1.size → (∀ q : Nat, q < H.size → ¬ A1 q → H1[q]? = H[q]?) → va_S A0 H0 H1 locs1 → W p l e R s m args below meth c H1 locs1 (cells + mc) (slots + ms) Q (F0 m (pc + 3) ls (rest))) : W p l e R s m args below meth c H locs cells slots Q (F0 m pc ls st0) := by
  intro T hT X
  rcases hr T hT X with ⟨v, st₀, t, T', L, h0, X', hL, e1, e2, ⟨⟨u, hv, hp, hb⟩, hF⟩, st⟩ | ⟨q, st₀, t, T', L, E, ce, h0, X', hL, e1, e2, ⟨u, hp, hb, hF⟩, hce, hcv, hcl, st⟩
  · cases hv
    obtain ⟨k1, k2, k3⟩ := vx_keep h0 e1 hS hA hf hL hF
    obtain ⟨t2, a1, b1⟩ := kk u t T'.heap (locs ++ L) e1.symm (by rw [← e2]; exact X'.warmed.alike) hp hb k1 k2 k3 T' rfl X'
    exact ⟨t2, st t2 a1, b1⟩
  · obtain ⟨k1, k2, k3⟩ := vx_keep h0 e1 hS hAX hf hL hF
    obtain ⟨t2, a1, b1⟩ := kx E ce q u t T'.heap (locs ++ L) e1.symm (by rw [← e2]; exact X'.warmed.alike) hp hb k1 k2 k3 (by rw [e1]; exact hce) hcv hcl T' rfl X'
    exact ⟨t2, st.trans a1, b1⟩
end Rows
section Ends
variable {p : Program} {l : Launch} {e : Env} {R : Room} {s : State} {m : MethodId} {args : Array Value} {below : List Frame} {meth : Method} {c : Code} {H : Heap} {locs : List Loc} {cells slots : Nat} {Q : State → Prop}
variable {mc ms : Nat} {free : Addr → Prop} {A0 A1 : Nat → Prop} {H0 : Heap} {a : Array Value} {ls : Array Slot} {st0 rest : List Value}
variable {Qc : Array Value → State → Outcome → State → Prop} {XC : String → State → State → Prop}
/-- what a body that may throw owes at its end -/
def vx_MQ (below : List Frame) (Qc : Array Value → State → Outcome → State → Prop) (XC : String → State → State → Prop) (a : Array Value) (s : State) (mc ms : Nat) (free : Addr → Prop) : State → Prop := fun t =>
  ∃ o, t.status = .running ∧ Ended t below o ∧ vx_Q Qc XC mc ms free a s o t
theorem vx_ret {g : JFrame} {mc ms : Nat} (k : W p l e R s m args below meth c H locs cells slots (MQ below Qc args s mc ms free) g) : W p l e R s m args below meth c H locs cells slots (vx_MQ below Qc XC args s mc ms free) g := by
  intro T hT X
  obtain ⟨t, a1, o, b1, b2, b3, b4⟩ := k T hT X
  exact ⟨t, a1, o, b1, b2, Or.inl ⟨b3, b4⟩⟩
/-- not caught here: it goes on to the caller -/
theorem vx_widen {g : JFrame} {q : Addr} {k n : Nat} (h1 : cells ≤ k) (h2 : slots ≤ n) (kk : vx_W p l e R s m args below meth c H locs k n Q g q) : vx_W p l e R s m args below meth c H locs cells slots Q g q := fun T hT X => kk T hT (stand_widen X h1 h2)
theorem vx_out {pc : Nat} {E : String} {ce : Cell} {q : Addr} {mc ms : Nat} (hout : ∀ x ∈ c.exceptionTable.toList, covers x pc = false) (hlocks : meth.locks = false) (hcell : H[q]? = some ce) (hv : ce.vm = .none) (hcl : s.vm.findClass E = some ce.cls)
    (hx : ∀ t : State, t.heap = H → s.vm.Alike t.vm → XC E s t) (hf : ∀ z ∈ locs, free z.base) (hc : cells ≤ mc) (hs : slots ≤ ms) :
    vx_W p l e R s m args below meth c H locs cells slots (vx_MQ below Qc XC args s mc ms free) (F0 m pc ls rest) q := by
  intro T hT X
  obtain ⟨st1, hrun, hend, hW, hsm⟩ := X.leaveThrown q (g := F0 m pc ls rest) rfl rfl rfl hout hlocks
  have hcell9 : (T.setFrames (.throwing q :: below)).heap[q]? = some ce := by
    show T.heap[q]? = some ce
    rw [hT]; exact hcell
  exact ⟨_, st1, .threw q, hrun, hend, Or.inr ⟨q, rfl, E, ce, locs, hx _ hT hW.alike, hcell9, hv, hcl, hW, hsm.mono hc hs, hf⟩⟩
theorem vx_frame {U : State} {k n : Nat} (h : s.sameButNew ({ U with vm := s.vm } : State) locs k n) : s.heap.size ≤ U.heap.size ∧ ∀ q : Nat, q < s.heap.size → (∀ z ∈ locs, z.base ≠ q) → U.heap[q]? = s.heap[q]? := by
  obtain ⟨-, h2, -, -, -, h6⟩ := h
  refine ⟨h2, fun q hq hz => ?_⟩
  obtain ⟨c9, e1, e2, e3, e4⟩ := h6 q _ (Array.getElem?_eq_getElem hq)
  have hs : c9.slots = (s.heap[q]).slots := Array.ext_getElem? fun i => e4 i fun hm => hz _ hm rfl
  have h9 : c9 = s.heap[q] := by
    rw [hs] at e2
    exact e2
  have e5 : U.heap[q]? = some c9 := e1
  rw [e5, h9, Array.getElem?_eq_getElem hq]
/-- the words of a throw but the four that speak of the heap -/
def vx_no (w : Cond) : Bool := decide (w ≠ .isRef (.static Bundle.tN "UNASSIGNED_STACK" Bundle.steD)) && decide (w ≠ .isRef (.static Bundle.tN "SUPPRESSED_SENTINEL" Bundle.listD)) && decide (w ≠ .laysStatic Bundle.tN "UNASSIGNED_STACK" Bundle.steD) && decide (w ≠ .laysStatic Bundle.tN "SUPPRESSED_SENTINEL" Bundle.listD)
def vx_at0 (own : String) (ic : Nat) (X : String) (names : List String) : List Cond := (Bundle.ownAtoms0 own ic X names).filter vx_no
def vx_atS (own : String) (ic : Nat) (X : String) (names : List String) : List Cond := (Bundle.ownAtoms own ic X names).filter vx_no
/-- a word that the tables alone decide, or a good one -/
def vx_ot (w : Cond) : Bool := w.onTables || goodWord w
theorem vx_ot_at {args a' : Array Value} {s U : State} {w : Cond} (hW : s.WarmedH U.vm) (hvm : s.vm = U.vm) (hg : vx_ot w = true) (h : w.before args s = true) : w.before a' U = true := by
  simp only [vx_ot, Bool.or_eq_true] at hg
  rcases hg with hg | hg
  · exact va_tabs hg hvm h
  · exact word_at hW (good_of_word hg) h
/-- a list's words: the good ones out of the method's own list, the others by premises of their own -/
theorem vx_hat {args : Array Value} {s : State} {L B : List Cond} (h1 : ∀ w ∈ L.filter goodWord, w.before args s = true) (h2 : ∀ w ∈ L.filter (fun w => !goodWord w), w ∈ B) (h3 : ∀ w ∈ B, w.before args s = true) : ∀ w ∈ L, w.before args s = true := by
  intro w hw
  by_cases g : goodWord w = true
  · exact h1 w (List.mem_filter.mpr ⟨hw, g⟩)
  · refine h3 w (h2 w (List.mem_filter.mpr ⟨hw, ?_⟩))
    show (!goodWord w) = true
    cases hgw : goodWord w
    · rfl
    · exact absurd hgw g
theorem vx_c {args : Array Value} {s : State} {w : Cond} {B : List Cond} (h : w.before args s = true) (t : ∀ w ∈ B, w.before args s = true) : ∀ w' ∈ w :: B, w'.before args s = true := fun w' h' => (List.mem_cons.mp h').elim (fun e => by rw [e]; exact h) (t w')
theorem vx_n {args : Array Value} {s : State} : ∀ w ∈ ([] : List Cond), w.before args s = true := fun _ h => nomatch h
theorem vx_own {args : Array Value} {s : State} {L : List Cond} (h1 : ∀ w ∈ L.filter vx_no, w.before args s = true)
    (hU : (Cond.isRef (.static Bundle.tN "UNASSIGNED_STACK" Bundle.steD)).before args s = true) (hN : (Cond.isRef (.static Bundle.tN "SUPPRESSED_SENTINEL" Bundle.listD)).before args s = true)
    (lU : (Cond.laysStatic Bundle.tN "UNASSIGNED_STACK" Bundle.steD).before args s = true) (lN : (Cond.laysStatic Bundle.tN "SUPPRESSED_SENTINEL" Bundle.listD).before args s = true) : ∀ w ∈ L, w.before args s = true := by
  intro w hw
  by_cases e1 : w = .isRef (.static Bundle.tN "UNASSIGNED_STACK" Bundle.steD)
  · rw [e1]; exact hU
  · by_cases e2 : w = .isRef (.static Bundle.tN "SUPPRESSED_SENTINEL" Bundle.listD)
    · rw [e2]; exact hN
    · by_cases e3 : w = .laysStatic Bundle.tN "UNASSIGNED_STACK" Bundle.steD
      · rw [e3]; exact lU
      · by_cases e4 : w = .laysStatic Bundle.tN "SUPPRESSED_SENTINEL" Bundle.listD
        · rw [e4]; exact lN
        · exact h1 w (List.mem_filter.mpr ⟨hw, by unfold vx_no; rw [decide_eq_true e1, decide_eq_true e2, decide_eq_true e3, decide_eq_true e4]; rfl⟩)
/-- where a static field lies, its class's statics cell in H -/
def vx_L (C n d : String) (A : Nat → Prop) (U : State) (H : Heap) : Prop := ∃ (c : ClassId) (k : Class) (i : Nat) (f : Field) (a : Nat) (cell : Cell), U.vm.findClass C = some c ∧ U.fieldFound? C n d = some (c, k, i, f) ∧ f.isStatic = true ∧ k.statics = some a ∧ H[a]? = some cell ∧ cell.vm.isStatics = true ∧ cell.cls = c ∧ f.slot < cell.slots.size ∧ k.staticTypes[f.slot]? = some f.type ∧ ¬ A a
theorem vx_L.moved {C n d : String} {A : Nat → Prop} {u U : State} {H : Heap} (hvm : u.vm.Alike U.vm) (h : vx_L C n d A u H) : vx_L C n d A U H := by
  obtain ⟨c, k, i, f, a, cell, h1, h2, h3, h4, h5, h6, h7, h8, h9, h10⟩ := h
  obtain ⟨k', hi', he⟩ := State.fieldFound?_setVm hvm h2
  exact ⟨c, k', i, f, a, cell, by rw [hvm.findClass]; exact h1, hi', h3, by rw [he]; exact h4, h5, h6, h7, h8, by rw [he]; exact h9, h10⟩
theorem vx_L.kept {C n d : String} {A : Nat → Prop} {U : State} {H H1 : Heap} (h : vx_L C n d A U H) (hq : ∀ a : Nat, a < H.size → ¬ A a → H1[a]? = H[a]?) : vx_L C n d A U H1 := by
  obtain ⟨c, k, i, f, a, cell, h1, h2, h3, h4, h5, h6, h7, h8, h9, h10⟩ := h
  exact ⟨c, k, i, f, a, cell, h1, h2, h3, h4, by rw [hq a (Array.getElem?_eq_some_iff.mp h5).1 h10]; exact h5, h6, h7, h8, h9, h10⟩
theorem vx_L.narrow {C n d : String} {A B : Nat → Prop} {U : State} {H : Heap} (h : vx_L C n d A U H) (hAB : ∀ q, B q → A q) : vx_L C n d B U H := by
  obtain ⟨c, k, i, f, a, cell, h1, h2, h3, h4, h5, h6, h7, h8, h9, h10⟩ := h
  exact ⟨c, k, i, f, a, cell, h1, h2, h3, h4, h5, h6, h7, h8, h9, fun z => h10 (hAB _ z)⟩
theorem vx_L.word {C n d : String} {A : Nat → Prop} {s : State} {args : Array Value} (h : vx_L C n d A s s.heap) : (Cond.laysStatic C n d).before args s = true := by
  obtain ⟨c, k, i, f, a, cell, h1, h2, h3, h4, h5, h6, h7, h8, h9, -⟩ := h
  show (Cond.laysStatic C n d).holds args s none s [] = true
  exact Cond.laysStatic_of h1 h2 h3 h4 h5 h6 h7 h8 h9
/-- .. and what it holds: null or some reference -/
def vx_Zq (C n d : String) (A : Nat → Prop) (U : State) (H : Heap) : Prop := va_Zq C n d A U H ∧ vx_L C n d A U H
theorem vx_Zq.moved {C n d : String} {A : Nat → Prop} {u U : State} {H : Heap} (hvm : u.vm.Alike U.vm) (h : vx_Zq C n d A u H) : vx_Zq C n d A U H := ⟨va_Zq.moved hvm h.1, vx_L.moved hvm h.2⟩
theorem vx_Zq.kept {C n d : String} {A : Nat → Prop} {U : State} {H H1 : Heap} (h : vx_Zq C n d A U H) (hq : ∀ a : Nat, a < H.size → ¬ A a → H1[a]? = H[a]?) : vx_Zq C n d A U H1 := ⟨va_Zq.kept h.1 hq, vx_L.kept h.2 hq⟩
theorem vx_Zq.narrow {C n d : String} {A B : Nat → Prop} {U : State} {H : Heap} (h : vx_Zq C n d A U H) (hAB : ∀ q, B q → A q) : vx_Zq C n d B U H := ⟨va_Zq.narrow h.1 hAB, vx_L.narrow h.2 hAB⟩
theorem vx_Zqof {args : Array Value} {s : State} {C n d : String} {A : Nat → Prop} (hl : (Cond.laysStatic C n d).before args s = true) (hini : (Cond.initialized C).before args s = true) (h : (Cond.isRef (.static C n d)).before args s = true) (hA : ∀ a : Nat, a < s.heap.size → ¬ A a) : vx_Zq C n d A s s.heap := by
  refine ⟨va_Zqof hl hini h hA, ?_⟩
  obtain ⟨c, k, i, f, a, cell, h1, h2, h3, h4, h5, h6, h7, h8, h9⟩ := Cond.laysStatic_spec hl
  exact ⟨c, k, i, f, a, cell, h1, h2, h3, h4, h5, h6, h7, h8, h9, hA a (Array.getElem?_eq_some_iff.mp h5).1⟩
theorem vx_isRef {C n d : String} {v : Value} {A : Nat → Prop} {s : State} {args : Array Value} (h : va_Z C n d v A s s.heap) (hv : v.isRef = true) : (Cond.isRef (.static C n d)).before args s = true := by
  obtain ⟨cf, kf, fi, f, a, cell, h1, h2, h3, h4, h5, h6, h7, -⟩ := h
  have he : (Term.static C n d).eval args s none [] s = some v := by
    simp [Term.eval, State.fieldNamed?, h1, h2, h4, h5, h6, h7]
  simp only [Cond.before, Cond.holds, Cond.value, he]
  cases v <;> simp_all [Value.isRef]
theorem vx_isRefq {C n d : String} {A : Nat → Prop} {s : State} {args : Array Value} (h : va_Zq C n d A s s.heap) : (Cond.isRef (.static C n d)).before args s = true := by
  rcases h with h | ⟨t, h⟩
  · exact vx_isRef h rfl
  · exact vx_isRef h rfl
/-- the same frame, seen from here: as if the method were called anew in this heap -/
theorem vx_rebase {T : State} (X : Stand p l e R s m args below meth c T locs cells slots) {R' : Room} (hf : R'.frames ≤ R.frames) (hl : R'.locals ≤ R.locals) (hc : cells + R'.cells ≤ R.cells) (hs : slots + R'.slots ≤ R.slots) :
    Stand p l e R' ((T.setVm s.vm).setFrames (.invoking m args :: below)) m args below meth c T [] 0 0 := by
  have htop : (T.setVm s.vm).topJava?.isSome := X.here.top
  have hF : ((T.setVm s.vm).setFrames (.invoking m args :: below)).frames = .invoking m args :: below := State.frames_setFrames _ (State.cur_lt_of_top htop)
  obtain ⟨g₀, hg0⟩ := Option.isSome_iff_exists.mp htop
  obtain ⟨r, hr⟩ := State.topJava?_eq_some.mp hg0
  have hl9 : e.platform.stackLimits (T.setVm s.vm).me = e.platform.stackLimits s.me := X.limits
  have hb9 : (T.setVm s.vm).me.stackBytes = s.me.stackBytes := X.bytes
  refine ⟨X.admits, X.cas, X.clock, hF, ?_, X.hears, X.method, X.code, X.here, X.tail, X.warmed, ?_, ?_, ?_⟩
  · have h := X.room
    have hU : ((T.setVm s.vm).setFrames (.invoking m args :: below)).localsInUse = s.localsInUse := by
      rw [State.localsInUse_invoking hF (meth := meth) (c := c) X.method X.code, State.localsInUse_invoking X.frames X.method X.code]
    simp only [State.hasRoom, Bool.and_eq_true, decide_eq_true_eq] at h ⊢
    obtain ⟨⟨⟨⟨h1, h2, h3, h4, h5, h6⟩, h7⟩, h8⟩, h9⟩ := h
    rw [X.frames, List.length_cons] at h2 h3
    have q1 := X.heapSize
    have q2 := X.used
    simp only [hF, hU, List.length_cons, State.stackLimits_setFrames, State.stackBytes_setFrames, hl9, hb9]
    refine ⟨⟨⟨⟨by omega, by omega, by omega, by omega, by omega, h6⟩, ?_⟩, ?_⟩, X.book⟩
    · show T.heap.size + R'.cells ≤ e.platform.maxCells
      omega
    · show T.slotsUsed + R'.slots ≤ e.platform.maxSlots
      omega
  · rw [State.stackLimits_setFrames]; rfl
  · rw [State.stackBytes_setFrames]; rfl
  · refine ⟨?_, Nat.le_refl _, Nat.le_refl _, ?_, ?_, fun a c9 h9 => ⟨c9, h9, rfl, rfl, fun _ _ => rfl⟩⟩
    · obtain ⟨t, ht, -⟩ := State.frames_cons hr
      show T.setVm s.vm = { ((T.setVm s.vm).setFrames (.invoking m args :: below)).setFrames (T.setVm s.vm).frames with heap := T.heap, slotsUsed := T.slotsUsed }
      rw [State.setFrames_setFrames, State.setFrames_self ht]
      rfl
    · show T.slotsUsed = T.slotsUsed + ((T.heap.toList.drop T.heap.size).map (·.slots.size)).sum
      rw [List.drop_eq_nil_of_le (Nat.le_of_eq Array.length_toList)]
      rfl
    · show ((T.heap.toList.drop T.heap.size).map (·.slots.size)).sum ≤ 0
      rw [List.drop_eq_nil_of_le (Nat.le_of_eq Array.length_toList)]
      exact Nat.le_refl _
/-- 'throw new E()': new; dup; invokespecial; athrow -/
theorem vx_throw0 {cc : ByteArray} {pc : Nat} (hexec : p.tables.exec = Jvm.exec) (hb : c.code = cc) (hl : l.stackTraces = false) {own cls : String} {names : List String} {ik ic mc ms : Nat} {A : Nat → Prop}
    (hown : s.vm.findClass own = some m.cls) (hcls : Bundle.fit cls = true) (hnames : ∀ n ∈ names, Bundle.fit n = true)
    (hk : (Cond.classLink own ik cls).before args s = true) (hini : (Cond.initialized cls).before args s = true) (hat : ∀ w ∈ vx_at0 own ic cls names, w.before args s = true)
    (hgood : ∀ w ∈ Cond.classLink own ik cls :: Cond.initialized cls :: vx_at0 own ic cls names, vx_ot w = true)
    (hU : vx_Zq Bundle.tN "UNASSIGNED_STACK" Bundle.steD A s s.heap) (hN : vx_Zq Bundle.tN "SUPPRESSED_SENTINEL" Bundle.listD A s s.heap) (hS : va_S A s.heap H locs) (hsize : ls.size = c.maxLocals)
    (d0 : decode cc pc = .ok (.new ik, 3)) (d3 : decode cc (pc + 3) = .ok (.dup, 1)) (d4 : decode cc (pc + 4) = .ok (.invokespecial ic, 3)) (d7 : decode cc (pc + 7) = .ok (.athrow, 1))
    (hout : ∀ x ∈ c.exceptionTable.toList, covers x (pc + 7) = false)
    (hRframes : names.length + 3 < R.frames) (hRlocals : (rest.map fun v => v.category).sum + (13 * (names.length + 1) + 42) ≤ R.locals) (hRcells : cells + 1 ≤ R.cells) (hRslots : slots + 6 ≤ R.slots) (hlocks : meth.locks = false)
    (hx : ∀ t : State, s.vm.Alike t.vm → H.size ≤ t.heap.size → (∀ q : Nat, q < H.size → t.heap[q]? = H[q]?) → XC cls s t)
    (hf : ∀ z ∈ locs, free z.base) (hc : cells + 1 ≤ mc) (hs : slots + 6 ≤ ms) :
    W p l e R s m args below meth c H locs cells slots (vx_MQ below Qc XC args s mc ms free) (F0 m pc ls rest) := by
  intro T hT X
  have htr : e.platform.stackTraces = false := (show e.platform.stackTraces = l.stackTraces by rw [X.admits.platform]).trans hl
  have Y := vx_rebase X (R' := { frames := R.frames, locals := R.locals, cells := 1, slots := 6 }) (Nat.le_refl _) (Nat.le_refl _) hRcells hRslots
  obtain ⟨s', hA⟩ : ∃ z, z = (T.setVm s.vm).setFrames (.invoking m args :: below) := ⟨_, rfl⟩
  rw [← hA] at Y
  have hvm : s'.vm = s.vm := by rw [hA]; rfl
  have hhp : s'.heap = H := by rw [hA]; exact hT
  have hW0 : s.WarmedH s'.vm := by rw [hvm]; exact State.WarmedH.refl s
  have hat' : ∀ w ∈ vx_at0 own ic cls names, w.before args s' = true := fun w hw => vx_ot_at hW0 hvm.symm (hgood w (List.mem_cons_of_mem _ (List.mem_cons_of_mem _ hw))) (hat w hw)
  have hk' : (Cond.classLink own ik cls).before args s' = true := vx_ot_at hW0 hvm.symm (hgood _ List.mem_cons_self) hk
  have hini' : (Cond.initialized cls).before args s' = true := vx_ot_at hW0 hvm.symm (hgood _ (List.mem_cons_of_mem _ List.mem_cons_self)) hini
  have hU' : vx_Zq Bundle.tN "UNASSIGNED_STACK" Bundle.steD A s' s'.heap := by rw [hhp]; exact vx_Zq.moved hW0.alike (hU.kept hS.2.1)
  have hN' : vx_Zq Bundle.tN "SUPPRESSED_SENTINEL" Bundle.listD A s' s'.heap := by rw [hhp]; exact vx_Zq.moved hW0.alike (hN.kept hS.2.1)
  have h : ∀ w ∈ Bundle.ownAtoms0 own ic cls names, w.before args s' = true := vx_own hat' (vx_isRefq hU'.1) (vx_isRefq hN'.1) hU'.2.word hN'.2.word
  have hown' : s'.vm.findClass own = some m.cls := by rw [hvm]; exact hown
  have hins : (Cond.instantiable cls 6).before args s' = true := h _ (by simp [Bundle.ownAtoms0])
  obtain ⟨vm₁, cX, kX, hfX, hkX, -, -, X₁, st1⟩ := Y.newCold hexec (own := own) (C := cls) (index := ik) (n := 6) hown' hk' hins hini'
    (g := F0 m pc ls rest) rfl (by rw [hb]; exact d0) (Nat.le_refl _) (Nat.le_refl _)
  generalize hT1 : (T.setVm vm₁).pushCell { cls := cX, slots := kX.instanceTypes.map defaultValue, vm := .none } = T1 at X₁ st1
  have hcat : (Value.ref T.heap.size).category = 1 := rfl
  have hcellA : T1.heap[T.heap.size]? = some (freshCell cX kX) := by rw [← hT1]; exact State.heap_pushCell_size _ _
  have d3' : decode c.code (pc + 3) = .ok (.dup, 1) := by rw [hb]; exact d3
  obtain ⟨U, hsteps, hrun, hend, hW, hsame, ce, hce, hO⟩ := X₁.ctorThrow0 hexec htr (own := own) (cls := cls) (names := names) (ic := ic) hown' hcls hnames h (fun x hx => nomatch hx) hfX hkX hcellA (by rw [hhp, hT]; exact Nat.le_refl _)
    (g := { method := m, pc := pc + 4, locals := ls, stack := .ref T.heap.size :: .ref T.heap.size :: rest, locked := none }) rfl hsize rfl rfl (rest := rest) rfl
    (by rw [hb]; exact d4) (by rw [hb]; exact d7) hout hRframes (by simp only [List.map_cons, List.sum_cons, hcat]; omega) hlocks
  obtain ⟨f1, f2⟩ := vx_frame hsame
  rw [hhp] at f1 f2
  have hWs : s.WarmedH U.vm := State.WarmedH.trans hW0 hW
  have hcl : s.vm.findClass cls = some ce.cls := by
    have h9 := hO.cls
    rw [hvm] at h9
    exact h9
  have hall : s.sameButNew ({ U with vm := s.vm } : State) locs mc ms := by
    subst hA
    obtain ⟨e1, e2⟩ := hsame
    rw [State.setFrames_setFrames] at e1
    have h2 : (T.setVm s.vm).sameButNew ({ U with vm := s.vm } : State) [] (0 + 1) (0 + 6) := ⟨e1, e2⟩
    have h3 := X.same.trans h2
    rw [List.append_nil] at h3
    exact h3.mono hc hs
  refine ⟨U, ?_, .threw T.heap.size, hrun, hend, Or.inr ⟨T.heap.size, rfl, cls, ce, locs, hx U hWs.alike f1 (fun q hq => f2 q hq (fun z hz => nomatch hz)), hce, hO.vm, hcl, hWs, hall, hf⟩⟩
  refine st1 _ ?_
  show Steps p.tables e below (T1.setTop { method := m, pc := pc + 3, locals := ls, stack := .ref T.heap.size :: rest, locked := none }) _
  jvm_step X₁.here [X₁.here.top, hexec, d3', Value.category]
  exact hsteps
/-- 'throw new E("text")': new; dup; ldc; invokespecial; athrow -/
theorem vx_throwS {cc : ByteArray} {pc : Nat} (hexec : p.tables.exec = Jvm.exec) (hb : c.code = cc) (hl : l.stackTraces = false) {own cls text : String} {names : List String} {ik is ic mc ms sa : Nat} {A : Nat → Prop}
    (hown : s.vm.findClass own = some m.cls) (hcls : Bundle.fit cls = true) (hnames : ∀ n ∈ names, Bundle.fit n = true)
    (hk : (Cond.classLink own ik cls).before args s = true) (hini : (Cond.initialized cls).before args s = true) (hstr : vk_R own is text sa s) (hat : ∀ w ∈ vx_atS own ic cls names, w.before args s = true)
    (hgood : ∀ w ∈ Cond.classLink own ik cls :: Cond.initialized cls :: vx_atS own ic cls names, vx_ot w = true)
    (hU : vx_Zq Bundle.tN "UNASSIGNED_STACK" Bundle.steD A s s.heap) (hN : vx_Zq Bundle.tN "SUPPRESSED_SENTINEL" Bundle.listD A s s.heap) (hS : va_S A s.heap H locs) (hsize : ls.size = c.maxLocals)
    (d0 : decode cc pc = .ok (.new ik, 3)) (d3 : decode cc (pc + 3) = .ok (.dup, 1)) (d4 : decode cc (pc + 4) = .ok (.ldc is, 2)) (d6 : decode cc (pc + 6) = .ok (.invokespecial ic, 3)) (d9 : decode cc (pc + 9) = .ok (.athrow, 1))
    (hout : ∀ x ∈ c.exceptionTable.toList, covers x (pc + 9) = false)
    (hRframes : names.length + 3 < R.frames) (hRlocals : (rest.map fun v => v.category).sum + (13 * (names.length + 1) + 43) ≤ R.locals) (hRcells : cells + 1 ≤ R.cells) (hRslots : slots + 6 ≤ R.slots) (hlocks : meth.locks = false)
    (hx : ∀ t : State, s.vm.Alike t.vm → H.size ≤ t.heap.size → (∀ q : Nat, q < H.size → t.heap[q]? = H[q]?) → XC cls s t)
    (hf : ∀ z ∈ locs, free z.base) (hc : cells + 1 ≤ mc) (hs : slots + 6 ≤ ms) :
    W p l e R s m args below meth c H locs cells slots (vx_MQ below Qc XC args s mc ms free) (F0 m pc ls rest) := by
  intro T hT X
  have htr : e.platform.stackTraces = false := (show e.platform.stackTraces = l.stackTraces by rw [X.admits.platform]).trans hl
  have Y := vx_rebase X (R' := { frames := R.frames, locals := R.locals, cells := 1, slots := 6 }) (Nat.le_refl _) (Nat.le_refl _) hRcells hRslots
  obtain ⟨s', hA⟩ : ∃ z, z = (T.setVm s.vm).setFrames (.invoking m args :: below) := ⟨_, rfl⟩
  rw [← hA] at Y
  have hvm : s'.vm = s.vm := by rw [hA]; rfl
  have hhp : s'.heap = H := by rw [hA]; exact hT
  have hW0 : s.WarmedH s'.vm := by rw [hvm]; exact State.WarmedH.refl s
  have hat' : ∀ w ∈ vx_atS own ic cls names, w.before args s' = true := fun w hw => vx_ot_at hW0 hvm.symm (hgood w (List.mem_cons_of_mem _ (List.mem_cons_of_mem _ hw))) (hat w hw)
  have hk' : (Cond.classLink own ik cls).before args s' = true := vx_ot_at hW0 hvm.symm (hgood _ List.mem_cons_self) hk
  have hini' : (Cond.initialized cls).before args s' = true := vx_ot_at hW0 hvm.symm (hgood _ (List.mem_cons_of_mem _ List.mem_cons_self)) hini
  have hU' : vx_Zq Bundle.tN "UNASSIGNED_STACK" Bundle.steD A s' s'.heap := by rw [hhp]; exact vx_Zq.moved hW0.alike (hU.kept hS.2.1)
  have hN' : vx_Zq Bundle.tN "SUPPRESSED_SENTINEL" Bundle.listD A s' s'.heap := by rw [hhp]; exact vx_Zq.moved hW0.alike (hN.kept hS.2.1)
  have h : ∀ w ∈ Bundle.ownAtoms own ic cls names, w.before args s' = true := vx_own hat' (vx_isRefq hU'.1) (vx_isRefq hN'.1) hU'.2.word hN'.2.word
  have hown' : s'.vm.findClass own = some m.cls := by rw [hvm]; exact hown
  have hins : (Cond.instantiable cls 6).before args s' = true := h _ (by simp [Bundle.ownAtoms])
  obtain ⟨vm₁, cX, kX, hfX, hkX, -, -, X₁, st1⟩ := Y.newCold hexec (own := own) (C := cls) (index := ik) (n := 6) hown' hk' hins hini'
    (g := F0 m pc ls rest) rfl (by rw [hb]; exact d0) (Nat.le_refl _) (Nat.le_refl _)
  generalize hT1 : (T.setVm vm₁).pushCell { cls := cX, slots := kX.instanceTypes.map defaultValue, vm := .none } = T1 at X₁ st1
  have hcat : (Value.ref T.heap.size).category = 1 := rfl
  have hcellA : T1.heap[T.heap.size]? = some (freshCell cX kX) := by rw [← hT1]; exact State.heap_pushCell_size _ _
  have d3' : decode c.code (pc + 3) = .ok (.dup, 1) := by rw [hb]; exact d3
  have d4' : decode c.code (pc + 4) = .ok (.ldc is, 2) := by rw [hb]; exact d4
  have hstr' : vk_R own is text sa s' := vk_R.warm hW0 hstr
  obtain ⟨U, hsteps, hrun, hend, hW, hsame, ce, hce, hO⟩ := X₁.ctorThrowS hexec htr (own := own) (cls := cls) (names := names) (ic := ic) hown' hcls hnames h (fun x hx => nomatch hx) hfX hkX hcellA (by rw [hhp, hT]; exact Nat.le_refl _) (msg := .ref sa) rfl
    (g := { method := m, pc := pc + 6, locals := ls, stack := .ref sa :: .ref T.heap.size :: .ref T.heap.size :: rest, locked := none }) rfl hsize rfl rfl (rest := rest) rfl
    (by rw [hb]; exact d6) (by rw [hb]; exact d9) hout hRframes (by simp only [List.map_cons, List.sum_cons, hcat]; omega) hlocks
  obtain ⟨f1, f2⟩ := vx_frame hsame
  rw [hhp] at f1 f2
  have hWs : s.WarmedH U.vm := State.WarmedH.trans hW0 hW
  have hcl : s.vm.findClass cls = some ce.cls := by
    have h9 := hO.cls
    rw [hvm] at h9
    exact h9
  have hall : s.sameButNew ({ U with vm := s.vm } : State) locs mc ms := by
    subst hA
    obtain ⟨e1, e2⟩ := hsame
    rw [State.setFrames_setFrames] at e1
    have h2 : (T.setVm s.vm).sameButNew ({ U with vm := s.vm } : State) [] (0 + 1) (0 + 6) := ⟨e1, e2⟩
    have h3 := X.same.trans h2
    rw [List.append_nil] at h3
    exact h3.mono hc hs
  refine ⟨U, ?_, .threw T.heap.size, hrun, hend, Or.inr ⟨T.heap.size, rfl, cls, ce, locs, hx U hWs.alike f1 (fun q hq => f2 q hq (fun z hz => nomatch hz)), hce, hO.vm, hcl, hWs, hall, hf⟩⟩
  refine st1 _ ?_
  show Steps p.tables e below (T1.setTop { method := m, pc := pc + 3, locals := ls, stack := .ref T.heap.size :: rest, locked := none }) _
  jvm_step X₁.here [X₁.here.top, hexec, d3', Value.category]
  exact X₁.ldcString hexec (own := own) (text := text) (index := is) (a := sa) hown' hstr'.1 hstr'.2
    (g := { method := m, pc := pc + 4, locals := ls, stack := .ref T.heap.size :: .ref T.heap.size :: rest, locked := none }) rfl d4' _ hsteps
/-- 'throw new E("text")', the text by a wide index -/
theorem vx_throwSW {cc : ByteArray} {pc : Nat} (hexec : p.tables.exec = Jvm.exec) (hb : c.code = cc) (hl : l.stackTraces = false) {own cls text : String} {names : List String} {ik is ic mc ms sa : Nat} {A : Nat → Prop}
    (hown : s.vm.findClass own = some m.cls) (hcls : Bundle.fit cls = true) (hnames : ∀ n ∈ names, Bundle.fit n = true)
    (hk : (Cond.classLink own ik cls).before args s = true) (hini : (Cond.initialized cls).before args s = true) (hstr : vk_R own is text sa s) (hat : ∀ w ∈ vx_atS own ic cls names, w.before args s = true)
    (hgood : ∀ w ∈ Cond.classLink own ik cls :: Cond.initialized cls :: vx_atS own ic cls names, vx_ot w = true)
    (hU : vx_Zq Bundle.tN "UNASSIGNED_STACK" Bundle.steD A s s.heap) (hN : vx_Zq Bundle.tN "SUPPRESSED_SENTINEL" Bundle.listD A s s.heap) (hS : va_S A s.heap H locs) (hsize : ls.size = c.maxLocals)
    (d0 : decode cc pc = .ok (.new ik, 3)) (d3 : decode cc (pc + 3) = .ok (.dup, 1)) (d4 : decode cc (pc + 4) = .ok (.ldc_w is, 3)) (d7 : decode cc (pc + 7) = .ok (.invokespecial ic, 3)) (d10 : decode cc (pc + 10) = .ok (.athrow, 1))
    (hout : ∀ x ∈ c.exceptionTable.toList, covers x (pc + 10) = false)
    (hRframes : names.length + 3 < R.frames) (hRlocals : (rest.map fun v => v.category).sum + (13 * (names.length + 1) + 43) ≤ R.locals) (hRcells : cells + 1 ≤ R.cells) (hRslots : slots + 6 ≤ R.slots) (hlocks : meth.locks = false)
    (hx : ∀ t : State, s.vm.Alike t.vm → H.size ≤ t.heap.size → (∀ q : Nat, q < H.size → t.heap[q]? = H[q]?) → XC cls s t)
    (hf : ∀ z ∈ locs, free z.base) (hc : cells + 1 ≤ mc) (hs : slots + 6 ≤ ms) :
    W p l e R s m args below meth c H locs cells slots (vx_MQ below Qc XC args s mc ms free) (F0 m pc ls rest) := by
  intro T hT X
  have htr : e.platform.stackTraces = false := (show e.platform.stackTraces = l.stackTraces by rw [X.admits.platform]).trans hl
  have Y := vx_rebase X (R' := { frames := R.frames, locals := R.locals, cells := 1, slots := 6 }) (Nat.le_refl _) (Nat.le_refl _) hRcells hRslots
  obtain ⟨s', hA⟩ : ∃ z, z = (T.setVm s.vm).setFrames (.invoking m args :: below) := ⟨_, rfl⟩
  rw [← hA] at Y
  have hvm : s'.vm = s.vm := by rw [hA]; rfl
  have hhp : s'.heap = H := by rw [hA]; exact hT
  have hW0 : s.WarmedH s'.vm := by rw [hvm]; exact State.WarmedH.refl s
  have hat' : ∀ w ∈ vx_atS own ic cls names, w.before args s' = true := fun w hw => vx_ot_at hW0 hvm.symm (hgood w (List.mem_cons_of_mem _ (List.mem_cons_of_mem _ hw))) (hat w hw)
  have hk' : (Cond.classLink own ik cls).before args s' = true := vx_ot_at hW0 hvm.symm (hgood _ List.mem_cons_self) hk
  have hini' : (Cond.initialized cls).before args s' = true := vx_ot_at hW0 hvm.symm (hgood _ (List.mem_cons_of_mem _ List.mem_cons_self)) hini
  have hU' : vx_Zq Bundle.tN "UNASSIGNED_STACK" Bundle.steD A s' s'.heap := by rw [hhp]; exact vx_Zq.moved hW0.alike (hU.kept hS.2.1)
  have hN' : vx_Zq Bundle.tN "SUPPRESSED_SENTINEL" Bundle.listD A s' s'.heap := by rw [hhp]; exact vx_Zq.moved hW0.alike (hN.kept hS.2.1)
  have h : ∀ w ∈ Bundle.ownAtoms own ic cls names, w.before args s' = true := vx_own hat' (vx_isRefq hU'.1) (vx_isRefq hN'.1) hU'.2.word hN'.2.word
  have hown' : s'.vm.findClass own = some m.cls := by rw [hvm]; exact hown
  have hins : (Cond.instantiable cls 6).before args s' = true := h _ (by simp [Bundle.ownAtoms])
  obtain ⟨vm₁, cX, kX, hfX, hkX, -, -, X₁, st1⟩ := Y.newCold hexec (own := own) (C := cls) (index := ik) (n := 6) hown' hk' hins hini'
    (g := F0 m pc ls rest) rfl (by rw [hb]; exact d0) (Nat.le_refl _) (Nat.le_refl _)
  generalize hT1 : (T.setVm vm₁).pushCell { cls := cX, slots := kX.instanceTypes.map defaultValue, vm := .none } = T1 at X₁ st1
  have hcat : (Value.ref T.heap.size).category = 1 := rfl
  have hcellA : T1.heap[T.heap.size]? = some (freshCell cX kX) := by rw [← hT1]; exact State.heap_pushCell_size _ _
  have d3' : decode c.code (pc + 3) = .ok (.dup, 1) := by rw [hb]; exact d3
  have d4' : decode c.code (pc + 4) = .ok (.ldc_w is, 3) := by rw [hb]; exact d4
  have hstr' : vk_R own is text sa s' := vk_R.warm hW0 hstr
  obtain ⟨U, hsteps, hrun, hend, hW, hsame, ce, hce, hO⟩ := X₁.ctorThrowS hexec htr (own := own) (cls := cls) (names := names) (ic := ic) hown' hcls hnames h (fun x hx => nomatch hx) hfX hkX hcellA (by rw [hhp, hT]; exact Nat.le_refl _) (msg := .ref sa) rfl
    (g := { method := m, pc := pc + 7, locals := ls, stack := .ref sa :: .ref T.heap.size :: .ref T.heap.size :: rest, locked := none }) rfl hsize rfl rfl (rest := rest) rfl
    (by rw [hb]; exact d7) (by rw [hb]; exact d10) hout hRframes (by simp only [List.map_cons, List.sum_cons, hcat]; omega) hlocks
  obtain ⟨f1, f2⟩ := vx_frame hsame
  rw [hhp] at f1 f2
  have hWs : s.WarmedH U.vm := State.WarmedH.trans hW0 hW
  have hcl : s.vm.findClass cls = some ce.cls := by
    have h9 := hO.cls
    rw [hvm] at h9
    exact h9
  have hall : s.sameButNew ({ U with vm := s.vm } : State) locs mc ms := by
    subst hA
    obtain ⟨e1, e2⟩ := hsame
    rw [State.setFrames_setFrames] at e1
    have h2 : (T.setVm s.vm).sameButNew ({ U with vm := s.vm } : State) [] (0 + 1) (0 + 6) := ⟨e1, e2⟩
    have h3 := X.same.trans h2
    rw [List.append_nil] at h3
    exact h3.mono hc hs
  refine ⟨U, ?_, .threw T.heap.size, hrun, hend, Or.inr ⟨T.heap.size, rfl, cls, ce, locs, hx U hWs.alike f1 (fun q hq => f2 q hq (fun z hz => nomatch hz)), hce, hO.vm, hcl, hWs, hall, hf⟩⟩
  refine st1 _ ?_
  show Steps p.tables e below (T1.setTop { method := m, pc := pc + 3, locals := ls, stack := .ref T.heap.size :: rest, locked := none }) _
  jvm_step X₁.here [X₁.here.top, hexec, d3', Value.category]
  exact X₁.ldcStringW hexec (own := own) (text := text) (index := is) (a := sa) hown' hstr'.1 hstr'.2
    (g := { method := m, pc := pc + 4, locals := ls, stack := .ref T.heap.size :: .ref T.heap.size :: rest, locked := none }) rfl d4' _ hsteps
end Ends
section Bodies
variable {l : Launch}
theorem vx_ofW {y : MethodName} {ws ws' : List Cond} {rm : Room} {Pc : Array Value → State → Prop} {Qc : Array Value → State → Outcome → State → Prop} {XC : String → State → State → Prop} {mc ms : Nat} {free : Addr → Prop} {cc : ByteArray} {maxL : Nat} {ret : Option FieldType}
    (hy : plainName y.cls = true) (hw : ws = Cond.code y cc maxL ret :: ws')
    (body : ∀ p e s m args below meth c s₁, BodyLoose p l y (headSpec ws rm) cc maxL ret e s m args below meth c s₁ → c.maxLocals = maxL → (∀ x ∈ c.exceptionTable.toList, False) → Pc args s →
      W p l e (headSpec ws rm).room s m args below meth c s.heap [] 0 0 (vx_MQ below Qc XC args s mc ms free) (entryFrame m args maxL)) : vx_Met l y ws rm Pc Qc XC mc ms free := by
  refine MetFree.of_bodyS (code := cc) (maxLocals := maxL) (ret := ret) hy ?_ ?_
  · intro args s m h hn
    obtain ⟨meth, c, h1, h2, h3, h4, h5, h6, -, -⟩ := Cond.code_spec hn (atoms_spec (ws := ws) h _ (by rw [hw]; exact List.mem_cons_self))
    exact ⟨meth, c, h1, h2, h3, h4, h5, h6⟩
  · intro p e s m args below meth c s₁ B hml hP _
    have hh0 : s₁.heap = s.heap := by rw [B.state]; rfl
    have ht : ∀ x ∈ c.exceptionTable.toList, False := by
      obtain ⟨meth9, c9, h1, h2, -, -, -, -, h7, -⟩ := Cond.code_spec B.named (atoms_spec (ws := ws) B.pre _ (by rw [hw]; exact List.mem_cons_self))
      cases Option.some.inj (h1.symm.trans B.method)
      cases Option.some.inj (h2.symm.trans (Stand.of_body B).code)
      intro x hx
      rw [Array.isEmpty_iff.mp h7] at hx
      cases hx
    obtain ⟨t, a1, o, b1, b2, b3⟩ := body p e s m args below meth c s₁ B hml ht hP s₁ hh0 (Stand.of_body B)
    exact ⟨t, o, a1, b1, b2, b3⟩
/-- the table of a body with handlers -/
theorem vx_table {p : Program} {x y : MethodName} {S : Spec} {cc bytes : ByteArray} {maxL maxL' : Nat} {ret ret' : Option FieldType} {e : Env} {s s₁ : State} {m : MethodId} {args : Array Value} {below : List Frame} {meth : Method} {c : Code} {hh : List (Nat × Nat × Nat × Nat)}
    (B : BodyLoose p l y S cc maxL ret e s m args below meth c s₁) (h : (Cond.codeWith y bytes maxL' ret' hh).before args s = true) : c.exceptionTable.toList = tableOf hh := by
  obtain ⟨m9, meth9, c9, hn9, h1, h2, -, -, h6, -⟩ := Cond.codeWith_spec h
  cases Option.some.inj (hn9.symm.trans B.named)
  cases Option.some.inj (h1.symm.trans B.method)
  cases Option.some.inj (h2.symm.trans (Stand.of_body B).code)
  rw [← h6, table_eq]
end Bodies
end VXA
/-! ===== END ===== -/
/-! ===== BEGIN a static call of a method with an exception table ===== -/
section VXS
variable {p : Program} {l : Launch} {e : Env} {R : Room} {s : State} {m : MethodId} {args : Array Value} {below : List Frame} {meth : Method} {c : Code} {T : State} {H : Heap} {locs : List Loc} {cells slots : Nat}
abbrev vx_CSW (R : Room) (s : State) (args : Array Value) (own : String) (index : Nat) (y : MethodName) (bytes : ByteArray) (maxL : Nat) (ret : Option FieldType) (hh : List (Nat × Nat × Nat × Nat)) (ws : List Cond) (rm : Room) (mc ms n : Nat) : Prop :=
  (rm.cells = mc ∧ rm.slots = ms ∧ rm.frames + 1 ≤ R.frames ∧ 8 + (maxL + 11) + rm.locals ≤ R.locals ∧ (∀ w ∈ ws, ∀ (a' : Array Value) (U : State), s.WarmedH U.vm → w.before a' U = true) ∧ Cond.codeWith y bytes maxL ret hh ∈ ws) ∧
  (Cond.codeWith y bytes maxL ret hh).before args s = true ∧ (Cond.initialized y.cls).before args s = true ∧ (y.cls ≠ "java/lang/invoke/MethodHandle" ∧ y.cls ≠ "java/lang/invoke/VarHandle") ∧
  (∀ sig, parseMethodDescriptor y.desc = some sig → n = sig.parameters.length) ∧ (Cond.methodLink own index y).before args s = true ∧ (Cond.static y).before args s = true
theorem vx_cwSW {own : String} {index maxL mc ms : Nat} {y : MethodName} {bytes : ByteArray} {ret : Option FieldType} {hh : List (Nat × Nat × Nat × Nat)} {Ts ws ws' : List Cond} {rm : Room} (n : Nat) (ht : ∀ w ∈ Ts, w.before args s = true) (hT : GoodIn Ts (va_wsS own index y ws)) (hw : ws = Cond.codeWith y bytes maxL ret hh :: ws') (hrc : rm.cells = mc) (hrs : rm.slots = ms)
    (hd : y.cls ≠ "java/lang/invoke/MethodHandle" ∧ y.cls ≠ "java/lang/invoke/VarHandle" ∧ (parseMethodDescriptor y.desc).map (fun d => d.parameters.length) = some n) (hR : rm.frames + 1 ≤ R.frames ∧ 8 + (maxL + 11) + rm.locals ≤ R.locals) :
    vx_CSW R s args own index y bytes maxL ret hh ws rm mc ms n := by
  have ok : ∀ w ∈ va_wsS own index y ws, w.before args s = true := fun w h => ht w (hT w h).1
  have hG : GoodIn Ts ws := fun w h => hT w (by unfold va_wsS; exact List.mem_append_right _ h)
  have hc : Cond.codeWith y bytes maxL ret hh ∈ ws := by rw [hw]; exact List.mem_cons_self
  refine ⟨⟨hrc, hrs, hR.1, hR.2, pay_in ht hG, hc⟩, ht _ (hG _ hc).1, ok _ (by simp [va_wsS]), ⟨hd.1, hd.2.1⟩, fun sig h => ?_, ok _ (by simp [va_wsS]), ok _ (by simp [va_wsS])⟩
  have h2 := hd.2.2
  rw [h] at h2
  exact (Option.some.inj h2).symm
theorem vx_callSW (X : Stand p l e R s m args below meth c T locs cells slots) (hexec : p.tables.exec = Jvm.exec) {own : String} {index : Nat} {y : MethodName} {bytes : ByteArray} {maxL : Nat} {ret : Option FieldType} {hh : List (Nat × Nat × Nat × Nat)}
    (hown : s.vm.findClass own = some m.cls) (hlink : (Cond.methodLink own index y).before args s = true) (hstat : (Cond.static y).before args s = true) (hinit : (Cond.initialized y.cls).before args s = true)
    (hcode : (Cond.codeWith y bytes maxL ret hh).before args s = true) (hy : y.cls ≠ "java/lang/invoke/MethodHandle" ∧ y.cls ≠ "java/lang/invoke/VarHandle")
    {W9 : Nat} {Pre : Pt → Array Value → Prop} {Post : Pt → Array Value → Option Value → Pt → Prop} (hK : Back l R p e below s args y 3 W9 Pre Post)
    {g : JFrame} (hg : g.method = m) (hsize : g.locals.size = c.maxLocals) {argsL rest : List Value} (hlen : ∀ sig, parseMethodDescriptor y.desc = some sig → argsL.length = sig.parameters.length)
    (hstack : g.stack = argsL.reverse ++ rest) (hW : 2 * g.monitorRoom + (rest.map fun v => v.category).sum ≤ W9) (hdg : decode c.code g.pc = .ok (.invokestatic index, 3))
    (hpre : ∀ vm₁, s.WarmedH vm₁ → Pre ⟨T.setVm vm₁, locs, cells, slots⟩ argsL.toArray) :
    ∃ (v : Option Value) (vm₁ : Vm) (B : Pt), s.WarmedH vm₁ ∧ Stand p l e R s m args below meth c B.U B.locs B.cells B.slots ∧ Post ⟨T.setVm vm₁, locs, cells, slots⟩ argsL.toArray v B ∧
      ∀ target, Steps p.tables e below (B.U.setTop { g with pc := g.pc + 3, stack := v.toList ++ rest }) target → Steps p.tables e below (T.setTop g) target := by
  obtain ⟨mk, methM, cM, hnamed, hmethM, -, -, -, -, -, -, hsigM⟩ := Cond.codeWith_spec hcode
  have hstatic : methM.isStatic = true := Cond.static_spec hnamed hmethM hstat
  obtain ⟨kP, hkP, -⟩ := className_of_methodNamed hnamed
  have hinitP : kP.init = .initialized := Cond.initialized_spec (findClass_of_methodNamed hnamed) hkP hinit
  obtain ⟨vm₁, X₁, hstep₁⟩ := X.invokestatic hexec hown hlink hnamed hmethM hstatic hkP hinitP hy (g := g) hg (argsL := argsL) (rest := rest) (hlen _ hsigM) hstack hdg
  obtain ⟨v, B, X', hpost, hsteps⟩ := hK m meth c ⟨T.setVm vm₁, locs, cells, slots⟩ { g with stack := rest } (.invokestatic index) mk argsL.toArray X₁ hg hsize hdg hW (X₁.named hnamed) (hpre vm₁ X₁.warmed)
  exact ⟨v, vm₁, B, X₁.warmed, X', hpost, fun target h => hstep₁ _ fun acts => by rw [doInvoke_state]; exact hsteps.trans h⟩
theorem vx_runSW {y : MethodName} {bytes cc : ByteArray} {maxL nL mc ms n index : Nat} {ret : Option FieldType} {hh : List (Nat × Nat × Nat × Nat)} {ws : List Cond} {rm : Room} {Pc : Array Value → State → Prop} {Qc : Array Value → State → Outcome → State → Prop} {free : Addr → Prop} {Ts : List Cond} {own : String} {As rest : List Value} {g : JFrame}
    (S : CallFix p m c cc nL s args Ts own) (hM : Met l y ws rm Pc Qc mc ms free) (cw : vx_CSW R s args own index y bytes maxL ret hh ws rm mc ms n) (hp : PreS s H Pc As)
    (hg : g.method = m) (hn : As.length = n) (hsize : g.locals.size = nL) (hstack : g.stack = As.reverse ++ rest) (hW : 2 * g.monitorRoom + (rest.map fun v => v.category).sum ≤ 8) (hdg : decode cc g.pc = .ok (.invokestatic index, 3)) (hf : cells + mc ≤ R.cells ∧ slots + ms ≤ R.slots) :
    va_Run p l e R s m args below meth c H locs cells slots mc ms g rest (Qc As.toArray) (free) := by
  obtain ⟨⟨hrc, hrs, hfr, hlo, hws, hcw⟩, hcode, hini, hy, hlen, hl, hstt⟩ := cw
  have hK : Back l R p e below s args y 3 8 (PreOf R mc ms Pc) (PostOf Qc mc ms free) := va_backW (hh := hh) (bytes := bytes) (maxL := maxL) (ret := ret) hM hp.1 hrc hrs hfr hlo hws hcw (fun a' U hW => word_at hW (Or.inl (by first | rfl | simp [Cond.onTables, Cond.keeps, Cond.steady])) hini)
  obtain ⟨hx, hb, hml, ho, -⟩ := S
  intro T hT X
  obtain ⟨v, vm₁, ⟨U', l2, c2, s2⟩, hW₁, X', ⟨g', mk, t, L, e1, e2, hq, h1, hL, h2, h3⟩, st⟩ := vx_callSW X hx (hh := hh) (bytes := bytes) (maxL := maxL) (ret := ret) ho hl hstt hini hcode hy hK hg (hsize.trans hml.symm) (argsL := As) (rest := rest) (fun sig h => hn.trans (hlen sig h)) hstack hW (by rw [hb]; exact hdg)
    (fun vm₁ hW₁ => ⟨hf.1, hf.2, hp.2 (T.setVm vm₁) hT hW₁⟩)
  dsimp only [Pt.U, Pt.locs, Pt.cells, Pt.slots] at X' e1 e2 h1 h2 h3 st
  subst h1; subst h2; subst h3
  exact ⟨v, (T.setVm vm₁).calling g' mk As.toArray, t, U', L, hT, X', hL, e1, e2, hq, st⟩
/-- a thing of a world lies in the heap -/
theorem vx_lt {D : va_G} {cl : List vw_C} {ws : va_W} {H1 : Heap} (h : va_P D cl ws H1) {k : Nat} {q : Nat × va_E} (hk : ws[k]? = some q) : q.1 < H1.size := (h k q hk).lt
end VXS
/-! ===== END ===== -/
/-! ===== BEGIN methods with a table of their own: called by a name, returning or throwing ===== -/
section VXH
/-! vx_backW, vx_callVX, vx_callSX, vx_callVW, vx_runVW, vx_runVX, vx_runSX, vx_ofWH follow the same proofs as their sisters above (Free/Laws.lean, Shelf42/LK1.lean); vx_outP calls Shelf42/NT130.lean (outThrough). -/
section
variable {l : Launch} {R : Room} {p : Program} {e : Env} {below : List Frame} {s : State} {sargs : Array Value} {y : MethodName} {len W9 : Nat}
theorem vx_backW {ws : List Cond} {rm : Room} {Pc : Array Value → State → Prop} {Qc : Array Value → State → Outcome → State → Prop} {XC : String → State → State → Prop} {mc ms : Nat} {free : Addr → Prop} {bytes : ByteArray} {maxL : Nat} {ret : Option FieldType} {hh : List (Nat × Nat × Nat × Nat)}
    (hM : vx_Met l y ws rm Pc Qc XC mc ms free) (hblind : FrameBlind Pc) (hrc : rm.cells = mc) (hrs : rm.slots = ms)
    (hframes : rm.frames + 1 ≤ R.frames) (hlocals : W9 + (maxL + 11) + rm.locals ≤ R.locals)
    (hws : ∀ w ∈ ws, ∀ a' U, s.WarmedH U.vm → w.before a' U = true) (hcode : Cond.codeWith y bytes maxL ret hh ∈ ws) (hinit : ∀ a' U, s.WarmedH U.vm → (Cond.initialized y.cls).before a' U = true) :
    vx_Back l R p e below s sargs y len W9 (PreOf R mc ms Pc) (PostOf Qc mc ms free) (vx_Post XC mc ms free) := by
  intro m meth c A g ig mk a X hg hsize hdg hW hn hp
  have h1 : (headSpec ws rm).pre.before a A.U = true := atoms_intro fun w hw => hws w hw _ _ X.warmed
  have h2 : (Cond.codeWith y bytes maxL ret hh).before a A.U = true := hws _ hcode _ _ X.warmed
  have h3 : (Cond.initialized y.cls).before a A.U = true := hinit _ _ X.warmed
  have h4 : A.cells + (headSpec ws rm).room.cells ≤ R.cells := by rw [show (headSpec ws rm).room.cells = mc from hrc]; exact hp.1
  have h5 : A.slots + (headSpec ws rm).room.slots ≤ R.slots := by rw [show (headSpec ws rm).room.slots = ms from hrs]; exact hp.2.1
  have hPc : Pc a (A.U.calling g mk a) := hblind _ _ _ _ hp.2.2
  obtain ⟨U, Ls, c0, s0⟩ := A
  dsimp only [Pt.U, Pt.locs, Pt.cells, Pt.slots] at h1 h2 h3 h4 h5 X hn hPc ⊢
  obtain ⟨m9, methY, cY, hn9, hmY, hcY, -, hlY, -⟩ := Cond.codeWith_spec h2
  cases Option.some.inj (hn9.symm.trans hn)
  obtain ⟨kY, hkY, -⟩ := className_of_methodNamed hn
  have hinitY : kY.init = .initialized := Cond.initialized_spec (findClass_of_methodNamed hn) hkY h3
  have h : At U g.method c below := by rw [hg]; exact X.here
  have hlocals9 : W9 + (maxL + 11) + (headSpec ws rm).room.locals ≤ R.locals := hlocals
  have happ : (headSpec ws rm).appliesLoose y e.platform (U.calling g mk a) = true :=
    Spec.appliesLoose_calling (g := g) h hdg hn hkY hinitY
      (X.room_calling (g := g) (R' := (headSpec ws rm).room) hsize hmY hcY hframes (by rw [hlY]; omega) h4 h5) h1
  obtain ⟨mid, hmid⟩ := h.above
  have hfr : (U.setTop g).frames = (.java g :: mid) ++ below := by rw [State.frames_setTop' g h.top, hmid]; rfl
  obtain ⟨o, s₂, hsteps, -, hend, hq⟩ := Steps.callFree hM p X.admits X.cas X.clock (acts := []) hfr happ hPc trivial
  have hq' : vx_Q Qc XC mc ms free a (U.calling g mk a) o s₂ := hq
  rw [State.frames_setTop' g h.top] at hend
  obtain ⟨g₀, hg0⟩ := Option.isSome_iff_exists.mp h.top
  obtain ⟨r, hr⟩ := State.topJava?_eq_some.mp hg0
  have hr' : (({ U with heap := s₂.heap, slotsUsed := s₂.slotsUsed } : State).setVm s₂.vm).frames = .java g₀ :: r := hr
  rcases hq' with ⟨hqc, L, hfe, hL⟩ | ⟨q, rfl, E, ce, L, hx, hce, hcv, hcl, hW₂, hsm, hL⟩
  · obtain ⟨⟨v, rfl⟩, hW₂, e2, q2, q3, q4, q5, q6⟩ := id hfe
    have e3 : s₂ = ({ (U.calling g mk a).setFrames s₂.frames with heap := s₂.heap, slotsUsed := s₂.slotsUsed } : State).setVm s₂.vm := by
      have : s₂ = ({ s₂ with vm := (U.calling g mk a).vm } : State).setVm s₂.vm := rfl
      rw [e2] at this
      exact this
    obtain ⟨c₂, i₂, len₂, hc₂, hd₂, hf₂⟩ := hend
    have hW' : U.WarmedH s₂.vm := hW₂
    have hcc : c₂ = c := by
      have h1 : s₂.code? g.method = U.code? g.method := by
        rw [State.code?_eq, State.code?_eq, hW'.alike.method?]
      exact Option.some.inj (hc₂.symm.trans (h1.trans h.code))
    subst hcc
    have hlen : len₂ = len := by rw [hdg] at hd₂; cases hd₂; rfl
    subst hlen
    have hs₂ : s₂ = (({ U with heap := s₂.heap, slotsUsed := s₂.slotsUsed } : State).setVm s₂.vm).setTop { g with pc := g.pc + len₂, stack := v.toList ++ g.stack } := by
      refine e3.trans ?_
      rw [hf₂, State.calling_eq h.top, State.setFrames_setFrames, State.setTop_of_frames _ hr', hr]
      rfl
    have hsame : U.sameButNew ({ U with heap := s₂.heap, slotsUsed := s₂.slotsUsed } : State) L mc ms := by
      refine ⟨?_, q2, q3, q4, q5, q6⟩
      obtain ⟨t, ht, -⟩ := State.frames_cons hr
      show ({ U with heap := s₂.heap, slotsUsed := s₂.slotsUsed } : State) = { U.setFrames U.frames with heap := s₂.heap, slotsUsed := s₂.slotsUsed }
      rw [State.setFrames_self ht]
    subst hg
    refine Or.inl ⟨v, ⟨(({ U with heap := s₂.heap, slotsUsed := s₂.slotsUsed } : State).setVm s₂.vm), Ls ++ L, c0 + mc, s0 + ms⟩,
      ⟨X.admits, X.cas, X.clock, X.frames, X.room, X.hears, X.method, X.code, (X.here.setHeapUsed s₂.heap s₂.slotsUsed).setVm hW'.alike, X.tail, State.WarmedH.trans X.warmed hW', X.limits, X.bytes, X.same.trans (hsame.setVm s.vm)⟩,
      ⟨g, mk, s₂, L, rfl, rfl, hqc, rfl, hL, rfl, rfl⟩, ?_⟩
    show Steps p.tables e below _ ((({ U with heap := s₂.heap, slotsUsed := s₂.slotsUsed } : State).setVm s₂.vm).setTop { g with pc := g.pc + len₂, stack := v.toList ++ g.stack })
    rw [← hs₂]
    exact hsteps
  · obtain ⟨e2, q2, q3, q4, q5, q6⟩ := id hsm
    have e3 : s₂ = ({ (U.calling g mk a).setFrames s₂.frames with heap := s₂.heap, slotsUsed := s₂.slotsUsed } : State).setVm s₂.vm := by
      have : s₂ = ({ s₂ with vm := (U.calling g mk a).vm } : State).setVm s₂.vm := rfl
      rw [e2] at this
      exact this
    have hf₂ : s₂.frames = .throwing q :: .java g :: U.frames.tail := hend
    have hW' : U.WarmedH s₂.vm := hW₂
    have hs₂ : s₂ = ((({ U with heap := s₂.heap, slotsUsed := s₂.slotsUsed } : State).setVm s₂.vm).setTop g).pushFrame (.throwing q) := by
      refine e3.trans ?_
      rw [hf₂, State.calling_eq h.top, State.setFrames_setFrames, State.pushFrame, State.frames_setTop _ hr', State.setTop_of_frames _ hr', State.setFrames_setFrames, hr]
      rfl
    have hsame : U.sameButNew ({ U with heap := s₂.heap, slotsUsed := s₂.slotsUsed } : State) L mc ms := by
      refine ⟨?_, q2, q3, q4, q5, q6⟩
      obtain ⟨t, ht, -⟩ := State.frames_cons hr
      show ({ U with heap := s₂.heap, slotsUsed := s₂.slotsUsed } : State) = { U.setFrames U.frames with heap := s₂.heap, slotsUsed := s₂.slotsUsed }
      rw [State.setFrames_self ht]
    subst hg
    refine Or.inr ⟨q, ⟨(({ U with heap := s₂.heap, slotsUsed := s₂.slotsUsed } : State).setVm s₂.vm), Ls ++ L, c0 + mc, s0 + ms⟩,
      ⟨X.admits, X.cas, X.clock, X.frames, X.room, X.hears, X.method, X.code, (X.here.setHeapUsed s₂.heap s₂.slotsUsed).setVm hW'.alike, X.tail, State.WarmedH.trans X.warmed hW', X.limits, X.bytes, X.same.trans (hsame.setVm s.vm)⟩,
      ⟨g, mk, s₂, L, E, ce, rfl, rfl, hx, hce, hcv, hcl, rfl, hL, rfl, rfl⟩, ?_⟩
    show Steps p.tables e below _ (((({ U with heap := s₂.heap, slotsUsed := s₂.slotsUsed } : State).setVm s₂.vm).setTop g).pushFrame (.throwing q))
    rw [← hs₂]
    exact hsteps
end
variable {p : Program} {l : Launch} {e : Env} {R : Room} {s : State} {m : MethodId} {args : Array Value} {below : List Frame} {meth : Method} {c : Code} {T : State} {H : Heap} {locs : List Loc} {cells slots : Nat}
theorem vx_callVX (X : Stand p l e R s m args below meth c T locs cells slots) (hexec : p.tables.exec = Jvm.exec) {own C : String} {index : Nat} {y : MethodName} {bytes : ByteArray} {maxL : Nat} {ret : Option FieldType} {hh : List (Nat × Nat × Nat × Nat)}
    (hown : s.vm.findClass own = some m.cls) (hlink : (Cond.methodLink own index y).before args s = true) (hinst : (Cond.instanceMethod y).before args s = true) (hsel : (Cond.selects C y y).before args s = true)
    (hcode : (Cond.codeWith y bytes maxL ret hh).before args s = true) (hy : y.cls ≠ "java/lang/invoke/MethodHandle" ∧ y.cls ≠ "java/lang/invoke/VarHandle")
    {W9 : Nat} {Pre : Pt → Array Value → Prop} {Post : Pt → Array Value → Option Value → Pt → Prop} {PostX : Pt → Array Value → Addr → Pt → Prop} (hK : vx_Back l R p e below s args y 3 W9 Pre Post PostX)
    {b : Addr} {cellB : Cell} (hcell : T.heap[b]? = some cellB) (hobj : cellB.vm.isStatics = false) (hcls : s.vm.findClass C = some cellB.cls)
    {g : JFrame} (hg : g.method = m) (hsize : g.locals.size = c.maxLocals) {argsL rest : List Value} (hlen : ∀ sig, parseMethodDescriptor y.desc = some sig → argsL.length = sig.parameters.length)
    (hstack : g.stack = argsL.reverse ++ .ref b :: rest) (hW : 2 * g.monitorRoom + (rest.map fun v => v.category).sum ≤ W9) (hdg : decode c.code g.pc = .ok (.invokevirtual index, 3))
    (hpre : ∀ vm₁, s.WarmedH vm₁ → Pre ⟨T.setVm vm₁, locs, cells, slots⟩ (Value.ref b :: argsL).toArray) :
    (∃ (v : Option Value) (vm₁ : Vm) (B : Pt), s.WarmedH vm₁ ∧ Stand p l e R s m args below meth c B.U B.locs B.cells B.slots ∧ Post ⟨T.setVm vm₁, locs, cells, slots⟩ (Value.ref b :: argsL).toArray v B ∧
      ∀ target, Steps p.tables e below (B.U.setTop { g with pc := g.pc + 3, stack := v.toList ++ rest }) target → Steps p.tables e below (T.setTop g) target) ∨
    (∃ (q : Addr) (vm₁ : Vm) (B : Pt), s.WarmedH vm₁ ∧ Stand p l e R s m args below meth c B.U B.locs B.cells B.slots ∧ PostX ⟨T.setVm vm₁, locs, cells, slots⟩ (Value.ref b :: argsL).toArray q B ∧
      Steps p.tables e below (T.setTop g) ((B.U.setTop { g with stack := rest }).pushFrame (.throwing q))) := by
  obtain ⟨mk, methM, hnamed, hmethM, hstM, habM⟩ := Cond.instanceMethod_spec hinst
  obtain ⟨m8, methM', cM, hn8, hmethM', -, -, -, -, -, -, hsigM⟩ := Cond.codeWith_spec hcode
  cases Option.some.inj (hn8.symm.trans hnamed)
  cases hmethM.symm.trans hmethM'
  obtain ⟨c2, r2, m2, q1, q2, q3, q4, kP, hkP, hkPi⟩ := Cond.selects_spec hsel
  cases hcls.symm.trans q1
  cases (State.methodFound?_of_named hnamed hy).symm.trans q2
  cases hnamed.symm.trans q3
  have hselP : selectMethod e.platform s.vm cellB.cls mk = .method mk := by rw [Launch.admits_selectMethod X.admits]; exact q4
  obtain ⟨vm₁, X₁, hstep₁⟩ := X.invokevirtual hexec hown hlink hnamed hmethM hstM hkP hkPi hy (a := b) (cell := cellB) hcell
    (fun z h => by rw [h] at hobj; cases hobj) hselP hmethM habM hkP hkPi (g := g) hg (argsL := argsL) (rest := rest) (hlen _ hsigM) hstack hdg
  rcases hK m meth c ⟨T.setVm vm₁, locs, cells, slots⟩ { g with stack := rest } (.invokevirtual index) mk (Value.ref b :: argsL).toArray X₁ hg hsize hdg hW (X₁.named hnamed) (hpre vm₁ X₁.warmed) with ⟨v, B, X', hpost, hsteps⟩ | ⟨q, B, X', hpost, hsteps⟩
  · exact Or.inl ⟨v, vm₁, B, X₁.warmed, X', hpost, fun target h => hstep₁ _ fun acts => by rw [doInvoke_state]; exact hsteps.trans h⟩
  · exact Or.inr ⟨q, vm₁, B, X₁.warmed, X', hpost, hstep₁ _ fun acts => by rw [doInvoke_state]; exact hsteps⟩
theorem vx_callSX (X : Stand p l e R s m args below meth c T locs cells slots) (hexec : p.tables.exec = Jvm.exec) {own : String} {index : Nat} {y : MethodName} {bytes : ByteArray} {maxL : Nat} {ret : Option FieldType} {hh : List (Nat × Nat × Nat × Nat)}
    (hown : s.vm.findClass own = some m.cls) (hlink : (Cond.methodLink own index y).before args s = true) (hstat : (Cond.static y).before args s = true) (hinit : (Cond.initialized y.cls).before args s = true)
    (hcode : (Cond.codeWith y bytes maxL ret hh).before args s = true) (hy : y.cls ≠ "java/lang/invoke/MethodHandle" ∧ y.cls ≠ "java/lang/invoke/VarHandle")
    {W9 : Nat} {Pre : Pt → Array Value → Prop} {Post : Pt → Array Value → Option Value → Pt → Prop} {PostX : Pt → Array Value → Addr → Pt → Prop} (hK : vx_Back l R p e below s args y 3 W9 Pre Post PostX)
    {g : JFrame} (hg : g.method = m) (hsize : g.locals.size = c.maxLocals) {argsL rest : List Value} (hlen : ∀ sig, parseMethodDescriptor y.desc = some sig → argsL.length = sig.parameters.length)
    (hstack : g.stack = argsL.reverse ++ rest) (hW : 2 * g.monitorRoom + (rest.map fun v => v.category).sum ≤ W9) (hdg : decode c.code g.pc = .ok (.invokestatic index, 3))
    (hpre : ∀ vm₁, s.WarmedH vm₁ → Pre ⟨T.setVm vm₁, locs, cells, slots⟩ argsL.toArray) :
    (∃ (v : Option Value) (vm₁ : Vm) (B : Pt), s.WarmedH vm₁ ∧ Stand p l e R s m args below meth c B.U B.locs B.cells B.slots ∧ Post ⟨T.setVm vm₁, locs, cells, slots⟩ argsL.toArray v B ∧
      ∀ target, Steps p.tables e below (B.U.setTop { g with pc := g.pc + 3, stack := v.toList ++ rest }) target → Steps p.tables e below (T.setTop g) target) ∨
    (∃ (q : Addr) (vm₁ : Vm) (B : Pt), s.WarmedH vm₁ ∧ Stand p l e R s m args below meth c B.U B.locs B.cells B.slots ∧ PostX ⟨T.setVm vm₁, locs, cells, slots⟩ argsL.toArray q B ∧
      Steps p.tables e below (T.setTop g) ((B.U.setTop { g with stack := rest }).pushFrame (.throwing q))) := by
  obtain ⟨mk, methM, cM, hnamed, hmethM, -, -, -, -, -, -, hsigM⟩ := Cond.codeWith_spec hcode
  have hstatic : methM.isStatic = true := Cond.static_spec hnamed hmethM hstat
  obtain ⟨kP, hkP, -⟩ := className_of_methodNamed hnamed
  have hinitP : kP.init = .initialized := Cond.initialized_spec (findClass_of_methodNamed hnamed) hkP hinit
  obtain ⟨vm₁, X₁, hstep₁⟩ := X.invokestatic hexec hown hlink hnamed hmethM hstatic hkP hinitP hy (g := g) hg (argsL := argsL) (rest := rest) (hlen _ hsigM) hstack hdg
  rcases hK m meth c ⟨T.setVm vm₁, locs, cells, slots⟩ { g with stack := rest } (.invokestatic index) mk argsL.toArray X₁ hg hsize hdg hW (X₁.named hnamed) (hpre vm₁ X₁.warmed) with ⟨v, B, X', hpost, hsteps⟩ | ⟨q, B, X', hpost, hsteps⟩
  · exact Or.inl ⟨v, vm₁, B, X₁.warmed, X', hpost, fun target h => hstep₁ _ fun acts => by rw [doInvoke_state]; exact hsteps.trans h⟩
  · exact Or.inr ⟨q, vm₁, B, X₁.warmed, X', hpost, hstep₁ _ fun acts => by rw [doInvoke_state]; exact hsteps⟩
theorem vx_callVW (X : Stand p l e R s m args below meth c T locs cells slots) (hexec : p.tables.exec = Jvm.exec) {own C : String} {index : Nat} {y : MethodName} {bytes : ByteArray} {maxL : Nat} {ret : Option FieldType} {hh : List (Nat × Nat × Nat × Nat)}
    (hown : s.vm.findClass own = some m.cls) (hlink : (Cond.methodLink own index y).before args s = true) (hinst : (Cond.instanceMethod y).before args s = true) (hsel : (Cond.selects C y y).before args s = true)
    (hcode : (Cond.codeWith y bytes maxL ret hh).before args s = true) (hy : y.cls ≠ "java/lang/invoke/MethodHandle" ∧ y.cls ≠ "java/lang/invoke/VarHandle")
    {W9 : Nat} {Pre : Pt → Array Value → Prop} {Post : Pt → Array Value → Option Value → Pt → Prop} (hK : Back l R p e below s args y 3 W9 Pre Post)
    {b : Addr} {cellB : Cell} (hcell : T.heap[b]? = some cellB) (hobj : cellB.vm.isStatics = false) (hcls : s.vm.findClass C = some cellB.cls)
    {g : JFrame} (hg : g.method = m) (hsize : g.locals.size = c.maxLocals) {argsL rest : List Value} (hlen : ∀ sig, parseMethodDescriptor y.desc = some sig → argsL.length = sig.parameters.length)
    (hstack : g.stack = argsL.reverse ++ .ref b :: rest) (hW : 2 * g.monitorRoom + (rest.map fun v => v.category).sum ≤ W9) (hdg : decode c.code g.pc = .ok (.invokevirtual index, 3))
    (hpre : ∀ vm₁, s.WarmedH vm₁ → Pre ⟨T.setVm vm₁, locs, cells, slots⟩ (Value.ref b :: argsL).toArray) :
    ∃ (v : Option Value) (vm₁ : Vm) (B : Pt), s.WarmedH vm₁ ∧ Stand p l e R s m args below meth c B.U B.locs B.cells B.slots ∧ Post ⟨T.setVm vm₁, locs, cells, slots⟩ (Value.ref b :: argsL).toArray v B ∧
      ∀ target, Steps p.tables e below (B.U.setTop { g with pc := g.pc + 3, stack := v.toList ++ rest }) target → Steps p.tables e below (T.setTop g) target := by
  obtain ⟨mk, methM, hnamed, hmethM, hstM, habM⟩ := Cond.instanceMethod_spec hinst
  obtain ⟨m8, methM', cM, hn8, hmethM', -, -, -, -, -, -, hsigM⟩ := Cond.codeWith_spec hcode
  cases Option.some.inj (hn8.symm.trans hnamed)
  cases hmethM.symm.trans hmethM'
  obtain ⟨c2, r2, m2, q1, q2, q3, q4, kP, hkP, hkPi⟩ := Cond.selects_spec hsel
  cases hcls.symm.trans q1
  cases (State.methodFound?_of_named hnamed hy).symm.trans q2
  cases hnamed.symm.trans q3
  have hselP : selectMethod e.platform s.vm cellB.cls mk = .method mk := by rw [Launch.admits_selectMethod X.admits]; exact q4
  obtain ⟨vm₁, X₁, hstep₁⟩ := X.invokevirtual hexec hown hlink hnamed hmethM hstM hkP hkPi hy (a := b) (cell := cellB) hcell
    (fun z h => by rw [h] at hobj; cases hobj) hselP hmethM habM hkP hkPi (g := g) hg (argsL := argsL) (rest := rest) (hlen _ hsigM) hstack hdg
  obtain ⟨v, B, X', hpost, hsteps⟩ := hK m meth c ⟨T.setVm vm₁, locs, cells, slots⟩ { g with stack := rest } (.invokevirtual index) mk (Value.ref b :: argsL).toArray X₁ hg hsize hdg hW (X₁.named hnamed) (hpre vm₁ X₁.warmed)
  exact ⟨v, vm₁, B, X₁.warmed, X', hpost, fun target h => hstep₁ _ fun acts => by rw [doInvoke_state]; exact hsteps.trans h⟩
abbrev vx_CVW (R : Room) (s : State) (args : Array Value) (own C : String) (index : Nat) (y : MethodName) (bytes : ByteArray) (maxL : Nat) (ret : Option FieldType) (hh : List (Nat × Nat × Nat × Nat)) (ws : List Cond) (rm : Room) (mc ms n : Nat) : Prop :=
  (rm.cells = mc ∧ rm.slots = ms ∧ rm.frames + 1 ≤ R.frames ∧ 8 + (maxL + 11) + rm.locals ≤ R.locals ∧ (∀ w ∈ ws, ∀ (a' : Array Value) (U : State), s.WarmedH U.vm → w.before a' U = true) ∧ Cond.codeWith y bytes maxL ret hh ∈ ws) ∧
  (Cond.codeWith y bytes maxL ret hh).before args s = true ∧ (Cond.initialized y.cls).before args s = true ∧ (y.cls ≠ "java/lang/invoke/MethodHandle" ∧ y.cls ≠ "java/lang/invoke/VarHandle") ∧
  (∀ sig, parseMethodDescriptor y.desc = some sig → n = sig.parameters.length) ∧ (Cond.methodLink own index y).before args s = true ∧ (Cond.instanceMethod y).before args s = true ∧ (Cond.selects C y y).before args s = true
theorem vx_cwVW {own C : String} {index maxL mc ms : Nat} {y : MethodName} {bytes : ByteArray} {ret : Option FieldType} {hh : List (Nat × Nat × Nat × Nat)} {Ts ws ws' : List Cond} {rm : Room} (n : Nat) (ht : ∀ w ∈ Ts, w.before args s = true) (hT : GoodIn Ts (wsV own index C y ws)) (hw : ws = Cond.codeWith y bytes maxL ret hh :: ws') (hrc : rm.cells = mc) (hrs : rm.slots = ms)
    (hd : y.cls = C ∧ y.cls ≠ "java/lang/invoke/MethodHandle" ∧ y.cls ≠ "java/lang/invoke/VarHandle" ∧ (parseMethodDescriptor y.desc).map (fun d => d.parameters.length) = some n) (hR : rm.frames + 1 ≤ R.frames ∧ 8 + (maxL + 11) + rm.locals ≤ R.locals) :
    vx_CVW R s args own C index y bytes maxL ret hh ws rm mc ms n := by
  obtain ⟨hC, hd⟩ := hd
  subst hC
  have ok : ∀ w ∈ wsV own index y.cls y ws, w.before args s = true := fun w h => ht w (hT w h).1
  have hG : GoodIn Ts ws := fun w h => hT w (by unfold wsV; exact List.mem_append_right _ h)
  have hc : Cond.codeWith y bytes maxL ret hh ∈ ws := by rw [hw]; exact List.mem_cons_self
  refine ⟨⟨hrc, hrs, hR.1, hR.2, pay_in ht hG, hc⟩, ht _ (hG _ hc).1, ok _ (by simp [wsV]), ⟨hd.1, hd.2.1⟩, fun sig h => ?_, ok _ (by simp [wsV]), ok _ (by simp [wsV]), ok _ (by simp [wsV])⟩
  have h2 := hd.2.2
  rw [h] at h2
  exact (Option.some.inj h2).symm
theorem vx_runVW {y : MethodName} {bytes cc : ByteArray} {maxL nL mc ms n index : Nat} {ret : Option FieldType} {hh : List (Nat × Nat × Nat × Nat)} {ws : List Cond} {rm : Room} {Pc : Array Value → State → Prop} {Qc : Array Value → State → Outcome → State → Prop} {free : Addr → Prop} {Ts : List Cond} {own C : String} {b : Addr} {As rest : List Value} {g : JFrame}
    (S : CallFix p m c cc nL s args Ts own) (hM : Met l y ws rm Pc Qc mc ms free) (cw : vx_CVW R s args own C index y bytes maxL ret hh ws rm mc ms n) (hp : PreV s H C b Pc As)
    (hg : g.method = m) (hn : As.length = n) (hsize : g.locals.size = nL) (hstack : g.stack = As.reverse ++ .ref b :: rest) (hW : 2 * g.monitorRoom + (rest.map fun v => v.category).sum ≤ 8) (hdg : decode cc g.pc = .ok (.invokevirtual index, 3)) (hf : cells + mc ≤ R.cells ∧ slots + ms ≤ R.slots) :
    va_Run p l e R s m args below meth c H locs cells slots mc ms g rest (Qc (Value.ref b :: As).toArray) free := by
  obtain ⟨⟨hrc, hrs, hfr, hlo, hws, hcw⟩, hcode, hini, hy, hlen, hl, hin, hse⟩ := cw
  have hK : Back l R p e below s args y 3 8 (PreOf R mc ms Pc) (PostOf Qc mc ms free) := va_backW (hh := hh) (bytes := bytes) (maxL := maxL) (ret := ret) hM hp.1 hrc hrs hfr hlo hws hcw (fun a' U hW => word_at hW (Or.inl (by first | rfl | simp [Cond.onTables, Cond.keeps, Cond.steady])) hini)
  obtain ⟨hx, hb, hml, ho, -⟩ := S
  obtain ⟨-, ⟨cellB, hcB, hoB, hclB⟩, hPc⟩ := hp
  intro T hT X
  obtain ⟨v, vm₁, ⟨U', l2, c2, s2⟩, hW₁, X', ⟨g', mk, t, L, e1, e2, hq, h1, hL, h2, h3⟩, st⟩ := vx_callVW X hx (C := C) (hh := hh) (bytes := bytes) (maxL := maxL) (ret := ret) ho hl hin hse hcode hy hK (by rw [hT]; exact hcB) hoB hclB hg (hsize.trans hml.symm) (argsL := As) (rest := rest) (fun sig h => hn.trans (hlen sig h)) hstack hW (by rw [hb]; exact hdg)
    (fun vm₁ hW₁ => ⟨hf.1, hf.2, hPc (T.setVm vm₁) hT hW₁⟩)
  dsimp only [Pt.U, Pt.locs, Pt.cells, Pt.slots] at X' e1 e2 h1 h2 h3 st
  subst h1; subst h2; subst h3
  exact ⟨v, (T.setVm vm₁).calling g' mk (Value.ref b :: As).toArray, t, U', L, hT, X', hL, e1, e2, hq, st⟩
section
variable {y : MethodName} {bytes cc : ByteArray} {maxL nL mc ms n index : Nat} {ret : Option FieldType} {ws : List Cond} {rm : Room} {Pc : Array Value → State → Prop} {Qc : Array Value → State → Outcome → State → Prop} {XC : String → State → State → Prop} {free : Addr → Prop} {Ts : List Cond} {own C : String} {b : Addr} {As rest : List Value} {g : JFrame}
theorem vx_runVX {hh : List (Nat × Nat × Nat × Nat)} (S : CallFix p m c cc nL s args Ts own) (hM : vx_Met l y ws rm Pc Qc XC mc ms free) (cw : vx_CVW R s args own C index y bytes maxL ret hh ws rm mc ms n) (hp : PreV s H C b Pc As)
    (hg : g.method = m) (hn : As.length = n) (hsize : g.locals.size = nL) (hstack : g.stack = As.reverse ++ .ref b :: rest) (hW : 2 * g.monitorRoom + (rest.map fun v => v.category).sum ≤ 8) (hdg : decode cc g.pc = .ok (.invokevirtual index, 3)) (hf : cells + mc ≤ R.cells ∧ slots + ms ≤ R.slots) :
    vx_Run p l e R s m args below meth c H locs cells slots mc ms g rest (Qc (Value.ref b :: As).toArray) XC free := by
  obtain ⟨⟨hrc, hrs, hfr, hlo, hws, hcw⟩, hcode, hini, hy, hlen, hl, hin, hse⟩ := cw
  have hK : vx_Back l R p e below s args y 3 8 (PreOf R mc ms Pc) (PostOf Qc mc ms free) (vx_Post XC mc ms free) := vx_backW (hh := hh) (bytes := bytes) (maxL := maxL) (ret := ret) hM hp.1 hrc hrs hfr hlo hws hcw (fun a' U hW => word_at hW (Or.inl (by first | rfl | simp [Cond.onTables, Cond.keeps, Cond.steady])) hini)
  obtain ⟨hx, hb, hml, ho, -⟩ := S
  obtain ⟨-, ⟨cellB, hcB, hoB, hclB⟩, hPc⟩ := hp
  intro T hT X
  rcases vx_callVX X hx (C := C) (hh := hh) (bytes := bytes) (maxL := maxL) (ret := ret) ho hl hin hse hcode hy hK (by rw [hT]; exact hcB) hoB hclB hg (hsize.trans hml.symm) (argsL := As) (rest := rest) (fun sig h => hn.trans (hlen sig h)) hstack hW (by rw [hb]; exact hdg)
    (fun vm₁ hW₁ => ⟨hf.1, hf.2, hPc (T.setVm vm₁) hT hW₁⟩) with ⟨v, vm₁, ⟨U', l2, c2, s2⟩, hW₁, X', ⟨g', mk, t, L, e1, e2, hq, h1, hL, h2, h3⟩, st⟩ | ⟨q, vm₁, ⟨U', l2, c2, s2⟩, hW₁, X', ⟨g', mk, t, L, E, ce, e1, e2, hq, hce, hcv, hcl, h1, hL, h2, h3⟩, st⟩
  · dsimp only [Pt.U, Pt.locs, Pt.cells, Pt.slots] at X' e1 e2 h1 h2 h3 st
    subst h1; subst h2; subst h3
    exact Or.inl ⟨v, (T.setVm vm₁).calling g' mk (Value.ref b :: As).toArray, t, U', L, hT, X', hL, e1, e2, hq, st⟩
  · dsimp only [Pt.U, Pt.locs, Pt.cells, Pt.slots] at X' e1 e2 h1 h2 h3 st hcl
    subst h1; subst h2; subst h3
    exact Or.inr ⟨q, (T.setVm vm₁).calling g' mk (Value.ref b :: As).toArray, t, U', L, E, ce, hT, X', hL, e1, e2, hq, hce, hcv, vx_cls hW₁ hcl, st⟩
theorem vx_runSX {hh : List (Nat × Nat × Nat × Nat)} (S : CallFix p m c cc nL s args Ts own) (hM : vx_Met l y ws rm Pc Qc XC mc ms free) (cw : vx_CSW R s args own index y bytes maxL ret hh ws rm mc ms n) (hp : PreS s H Pc As)
    (hg : g.method = m) (hn : As.length = n) (hsize : g.locals.size = nL) (hstack : g.stack = As.reverse ++ rest) (hW : 2 * g.monitorRoom + (rest.map fun v => v.category).sum ≤ 8) (hdg : decode cc g.pc = .ok (.invokestatic index, 3)) (hf : cells + mc ≤ R.cells ∧ slots + ms ≤ R.slots) :
    vx_Run p l e R s m args below meth c H locs cells slots mc ms g rest (Qc As.toArray) XC free := by
  obtain ⟨⟨hrc, hrs, hfr, hlo, hws, hcw⟩, hcode, hini, hy, hlen, hl, hstt⟩ := cw
  have hK : vx_Back l R p e below s args y 3 8 (PreOf R mc ms Pc) (PostOf Qc mc ms free) (vx_Post XC mc ms free) := vx_backW (hh := hh) (bytes := bytes) (maxL := maxL) (ret := ret) hM hp.1 hrc hrs hfr hlo hws hcw (fun a' U hW => word_at hW (Or.inl (by first | rfl | simp [Cond.onTables, Cond.keeps, Cond.steady])) hini)
  obtain ⟨hx, hb, hml, ho, -⟩ := S
  intro T hT X
  rcases vx_callSX X hx (hh := hh) (bytes := bytes) (maxL := maxL) (ret := ret) ho hl hstt hini hcode hy hK hg (hsize.trans hml.symm) (argsL := As) (rest := rest) (fun sig h => hn.trans (hlen sig h)) hstack hW (by rw [hb]; exact hdg)
    (fun vm₁ hW₁ => ⟨hf.1, hf.2, hp.2 (T.setVm vm₁) hT hW₁⟩) with ⟨v, vm₁, ⟨U', l2, c2, s2⟩, hW₁, X', ⟨g', mk, t, L, e1, e2, hq, h1, hL, h2, h3⟩, st⟩ | ⟨q, vm₁, ⟨U', l2, c2, s2⟩, hW₁, X', ⟨g', mk, t, L, E, ce, e1, e2, hq, hce, hcv, hcl, h1, hL, h2, h3⟩, st⟩
  · dsimp only [Pt.U, Pt.locs, Pt.cells, Pt.slots] at X' e1 e2 h1 h2 h3 st
    subst h1; subst h2; subst h3
    exact Or.inl ⟨v, (T.setVm vm₁).calling g' mk As.toArray, t, U', L, hT, X', hL, e1, e2, hq, st⟩
  · dsimp only [Pt.U, Pt.locs, Pt.cells, Pt.slots] at X' e1 e2 h1 h2 h3 st hcl
    subst h1; subst h2; subst h3
    exact Or.inr ⟨q, (T.setVm vm₁).calling g' mk As.toArray, t, U', L, E, ce, hT, X', hL, e1, e2, hq, hce, hcv, vx_cls hW₁ hcl, st⟩
end
end VXH
theorem vx_ofWH {l : Launch} {y : MethodName} {ws ws' : List Cond} {rm : Room} {Pc : Array Value → State → Prop} {Qc : Array Value → State → Outcome → State → Prop} {XC : String → State → State → Prop} {mc ms : Nat} {free : Addr → Prop} {cc : ByteArray} {maxL : Nat} {ret : Option FieldType} {hh : List (Nat × Nat × Nat × Nat)}
    (hy : plainName y.cls = true) (hw : ws = Cond.codeWith y cc maxL ret hh :: ws')
    (body : ∀ p e s m args below meth c s₁, BodyLoose p l y (headSpec ws rm) cc maxL ret e s m args below meth c s₁ → c.maxLocals = maxL → Pc args s →
      W p l e (headSpec ws rm).room s m args below meth c s.heap [] 0 0 (vx_MQ below Qc XC args s mc ms free) (entryFrame m args maxL)) : vx_Met l y ws rm Pc Qc XC mc ms free := by
  refine MetFree.of_bodyS (code := cc) (maxLocals := maxL) (ret := ret) hy ?_ ?_
  · intro args s m h hn
    obtain ⟨m9, meth, c, hn9, h1, h2, h3, h4, -, h5, h6, -⟩ := Cond.codeWith_spec (atoms_spec (ws := ws) h _ (by rw [hw]; exact List.mem_cons_self))
    cases hn.symm.trans hn9
    exact ⟨meth, c, h1, h2, h3, h4, h5, h6⟩
  · intro p e s m args below meth c s₁ B hml hP _
    have hh0 : s₁.heap = s.heap := by rw [B.state]; rfl
    obtain ⟨t, a1, o, b1, b2, b3⟩ := body p e s m args below meth c s₁ B hml hP s₁ hh0 (Stand.of_body B)
    exact ⟨t, o, a1, b1, b2, b3⟩
/-! ===== END ===== -/
end
section
def RX0 : String := "LanternState$Bill"
def TX0 : u_T := fun k => match k with
  | 0 => ("LanternState$Bill", "letters", "[C", true)
  | _ => ("LanternState$Bill", "size", "I", false)
def tyX0 : Nat → FieldType := fun k => match k with
  | 0 => .array .char
  | _ => .int
abbrev wsX00 : List Cond := u_ws RX0 TX0 2
theorem nmX0 : ∀ a, a < 2 → ∀ b, b < 2 → a ≠ b → (TX0 a).2.1 ≠ (TX0 b).2.1 := by decide +kernel
theorem tyX0_ok : ∀ k, k < 2 → parseFieldDescriptor (TX0 k).2.2.1 = some (tyX0 k) := by decide +kernel
abbrev cX0_init : ByteArray := prog_2_method_1_code
def yX0_init : MethodName := ⟨RX0, "<init>", "()V"⟩
abbrev cX0_write : ByteArray := prog_2_method_2_code
def yX0_write : MethodName := ⟨RX0, "write", "(LLanternState$Scene;LLanternState$State;I)V"⟩
abbrev cX0_put : ByteArray := prog_2_method_3_code
def yX0_put : MethodName := ⟨RX0, "put", "(Ljava/lang/String;)V"⟩
abbrev cX0_putName : ByteArray := prog_2_method_4_code
def yX0_putName : MethodName := ⟨RX0, "putName", "(J)V"⟩
abbrev cX0_putLetter : ByteArray := prog_2_method_5_code
def yX0_putLetter : MethodName := ⟨RX0, "putLetter", "(C)V"⟩
def RX1 : String := "LanternState$Book"
def TX1 : u_T := fun k => match k with
  | 0 => ("LanternState$Book", "keys", "[I", true)
  | 1 => ("LanternState$Book", "whos", "[I", true)
  | 2 => ("LanternState$Book", "firsts", "[I", true)
  | 3 => ("LanternState$Book", "seconds", "[I", true)
  | 4 => ("LanternState$Book", "lines", "I", false)
  | _ => ("LanternState$Book", "why", "I", false)
def tyX1 : Nat → FieldType := fun k => match k with
  | 0 => .array .int
  | 1 => .array .int
  | 2 => .array .int
  | 3 => .array .int
  | 4 => .int
  | _ => .int
abbrev wsX10 : List Cond := u_ws RX1 TX1 6
theorem nmX1 : ∀ a, a < 6 → ∀ b, b < 6 → a ≠ b → (TX1 a).2.1 ≠ (TX1 b).2.1 := by decide +kernel
theorem tyX1_ok : ∀ k, k < 6 → parseFieldDescriptor (TX1 k).2.2.1 = some (tyX1 k) := by decide +kernel
abbrev cX1_init : ByteArray := prog_3_method_1_code
def yX1_init : MethodName := ⟨RX1, "<init>", "()V"⟩
abbrev cX1_read : ByteArray := prog_3_method_2_code
def yX1_read : MethodName := ⟨RX1, "read", "(LLanternState$Tape;LLanternState$Scene;)Z"⟩
abbrev cX1_readLine : ByteArray := prog_3_method_3_code
def yX1_readLine : MethodName := ⟨RX1, "readLine", "(LLanternState$Tape;LLanternState$Scene;)Z"⟩
abbrev cX1_readSlideAct : ByteArray := prog_3_method_4_code
def yX1_readSlideAct : MethodName := ⟨RX1, "readSlideAct", "(LLanternState$Tape;LLanternState$Scene;I)Z"⟩
abbrev cX1_readSeatAct : ByteArray := prog_3_method_5_code
def yX1_readSeatAct : MethodName := ⟨RX1, "readSeatAct", "(LLanternState$Tape;I)Z"⟩
abbrev cX1_keepLine : ByteArray := prog_3_method_6_code
def yX1_keepLine : MethodName := ⟨RX1, "keepLine", "(IIII)Z"⟩
abbrev cX1_liveIn : ByteArray := prog_3_method_7_code
def yX1_liveIn : MethodName := ⟨RX1, "liveIn", "(LLanternState$Scene;LLanternState$State;)I"⟩
abbrev cX1_liveLine : ByteArray := prog_3_method_8_code
def yX1_liveLine : MethodName := ⟨RX1, "liveLine", "(LLanternState$Scene;LLanternState$State;I)I"⟩
abbrev cX1_whyOf : ByteArray := prog_3_method_9_code
def yX1_whyOf : MethodName := ⟨RX1, "whyOf", "(II)I"⟩
def RX2 : String := "LanternState$History"
def TX2 : u_T := fun k => match k with
  | 0 => ("LanternState$History", "kept", "[LLanternState$State;", true)
  | 1 => ("LanternState$History", "first", "I", false)
  | _ => ("LanternState$History", "size", "I", false)
def tyX2 : Nat → FieldType := fun k => match k with
  | 0 => .array (.object "LanternState$State")
  | 1 => .int
  | _ => .int
abbrev wsX20 : List Cond := u_ws RX2 TX2 3
theorem nmX2 : ∀ a, a < 3 → ∀ b, b < 3 → a ≠ b → (TX2 a).2.1 ≠ (TX2 b).2.1 := by decide +kernel
theorem tyX2_ok : ∀ k, k < 3 → parseFieldDescriptor (TX2 k).2.2.1 = some (tyX2 k) := by decide +kernel
abbrev cX2_init : ByteArray := prog_4_method_1_code
def yX2_init : MethodName := ⟨RX2, "<init>", "()V"⟩
abbrev cX2_clear : ByteArray := prog_4_method_2_code
def yX2_clear : MethodName := ⟨RX2, "clear", "()V"⟩
abbrev cX2_keep : ByteArray := prog_4_method_3_code
def yX2_keep : MethodName := ⟨RX2, "keep", "(LLanternState$State;)V"⟩
abbrev cX2_takeBack : ByteArray := prog_4_method_4_code
def yX2_takeBack : MethodName := ⟨RX2, "takeBack", "(LLanternState$State;)V"⟩
def RX3 : String := "LanternState$Image"
def TX3 : u_T := fun k => match k with
  | 0 => ("LanternState$Image", "kept", "Z", false)
  | 1 => ("LanternState$Image", "scene", "LLanternState$Scene;", true)
  | 2 => ("LanternState$Image", "state", "LLanternState$State;", true)
  | _ => ("LanternState$Image", "rule", "LLanternState$Sentence;", true)
def tyX3 : Nat → FieldType := fun k => match k with
  | 0 => .boolean
  | 1 => .object "LanternState$Scene"
  | 2 => .object "LanternState$State"
  | _ => .object "LanternState$Sentence"
abbrev wsX30 : List Cond := u_ws RX3 TX3 4
theorem nmX3 : ∀ a, a < 4 → ∀ b, b < 4 → a ≠ b → (TX3 a).2.1 ≠ (TX3 b).2.1 := by decide +kernel
theorem tyX3_ok : ∀ k, k < 4 → parseFieldDescriptor (TX3 k).2.2.1 = some (tyX3 k) := by decide +kernel
abbrev cX3_init : ByteArray := prog_5_method_1_code
def yX3_init : MethodName := ⟨RX3, "<init>", "()V"⟩
def RX4 : String := "LanternState$Picture"
def TX4 : u_T := fun k => match k with
  | _ => ("", "", "", false)
def tyX4 : Nat → FieldType := fun k => match k with
  | _ => .int
abbrev wsX40 : List Cond := u_ws RX4 TX4 0
theorem nmX4 : ∀ a, a < 0 → ∀ b, b < 0 → a ≠ b → (TX4 a).2.1 ≠ (TX4 b).2.1 := by decide +kernel
theorem tyX4_ok : ∀ k, k < 0 → parseFieldDescriptor (TX4 k).2.2.1 = some (tyX4 k) := by decide +kernel
abbrev cX4_cell : ByteArray := prog_6_method_2_code
def yX4_cell : MethodName := ⟨RX4, "cell", "(II)I"⟩
abbrev cX4_ofRow : ByteArray := prog_6_method_3_code
def yX4_ofRow : MethodName := ⟨RX4, "ofRow", "(II)I"⟩
abbrev cX4_rowOf : ByteArray := prog_6_method_4_code
def yX4_rowOf : MethodName := ⟨RX4, "rowOf", "(II)I"⟩
abbrev cX4_mirror : ByteArray := prog_6_method_5_code
def yX4_mirror : MethodName := ⟨RX4, "mirror", "(I)I"⟩
abbrev cX4_flip : ByteArray := prog_6_method_6_code
def yX4_flip : MethodName := ⟨RX4, "flip", "(I)I"⟩
abbrev cX4_turn : ByteArray := prog_6_method_7_code
def yX4_turn : MethodName := ⟨RX4, "turn", "(II)I"⟩
abbrev cX4_looks : ByteArray := prog_6_method_8_code
def yX4_looks : MethodName := ⟨RX4, "looks", "(III)Z"⟩
def RX5 : String := "LanternState$Scene"
def TX5 : u_T := fun k => match k with
  | 0 => ("LanternState$Scene", "slides", "I", false)
  | 1 => ("LanternState$Scene", "hearers", "I", false)
  | 2 => ("LanternState$Scene", "nears", "I", false)
  | 3 => ("LanternState$Scene", "lines", "I", false)
  | 4 => ("LanternState$Scene", "pass", "I", false)
  | 5 => ("LanternState$Scene", "spread", "I", false)
  | 6 => ("LanternState$Scene", "lamp", "I", false)
  | 7 => ("LanternState$Scene", "behind", "I", false)
  | 8 => ("LanternState$Scene", "settingsTold", "I", false)
  | 9 => ("LanternState$Scene", "slideNames", "[J", true)
  | 10 => ("LanternState$Scene", "pictures", "[I", true)
  | 11 => ("LanternState$Scene", "heats", "[I", true)
  | 12 => ("LanternState$Scene", "after", "[I", true)
  | 13 => ("LanternState$Scene", "hearerNames", "[J", true)
  | 14 => ("LanternState$Scene", "needs", "[I", true)
  | 15 => ("LanternState$Scene", "likes", "[I", true)
  | 16 => ("LanternState$Scene", "hates", "[I", true)
  | _ => ("LanternState$Scene", "near", "[I", true)
def tyX5 : Nat → FieldType := fun k => match k with
  | 0 => .int
  | 1 => .int
  | 2 => .int
  | 3 => .int
  | 4 => .int
  | 5 => .int
  | 6 => .int
  | 7 => .int
  | 8 => .int
  | 9 => .array .long
  | 10 => .array .int
  | 11 => .array .int
  | 12 => .array .int
  | 13 => .array .long
  | 14 => .array .int
  | 15 => .array .int
  | 16 => .array .int
  | _ => .array .int
abbrev wsX50 : List Cond := u_ws RX5 TX5 18
theorem nmX5 : ∀ a, a < 18 → ∀ b, b < 18 → a ≠ b → (TX5 a).2.1 ≠ (TX5 b).2.1 := by decide +kernel
theorem tyX5_ok : ∀ k, k < 18 → parseFieldDescriptor (TX5 k).2.2.1 = some (tyX5 k) := by decide +kernel
abbrev cX5_init : ByteArray := prog_7_method_1_code
def yX5_init : MethodName := ⟨RX5, "<init>", "()V"⟩
abbrev cX5_clear : ByteArray := prog_7_method_2_code
def yX5_clear : MethodName := ⟨RX5, "clear", "()V"⟩
abbrev cX5_copyFrom : ByteArray := prog_7_method_3_code
def yX5_copyFrom : MethodName := ⟨RX5, "copyFrom", "(LLanternState$Scene;)V"⟩
abbrev cX5_read : ByteArray := prog_7_method_4_code
def yX5_read : MethodName := ⟨RX5, "read", "(LLanternState$Tape;)Z"⟩
abbrev cX5_readLine : ByteArray := prog_7_method_5_code
def yX5_readLine : MethodName := ⟨RX5, "readLine", "(LLanternState$Tape;)Z"⟩
abbrev cX5_readSlide : ByteArray := prog_7_method_6_code
def yX5_readSlide : MethodName := ⟨RX5, "readSlide", "(LLanternState$Tape;)Z"⟩
abbrev cX5_readHearer : ByteArray := prog_7_method_7_code
def yX5_readHearer : MethodName := ⟨RX5, "readHearer", "(LLanternState$Tape;)Z"⟩
abbrev cX5_readCell : ByteArray := prog_7_method_8_code
def yX5_readCell : MethodName := ⟨RX5, "readCell", "(LLanternState$Tape;[I)Z"⟩
abbrev cX5_readNear : ByteArray := prog_7_method_9_code
def yX5_readNear : MethodName := ⟨RX5, "readNear", "(LLanternState$Tape;)Z"⟩
abbrev cX5_readAfter : ByteArray := prog_7_method_10_code
def yX5_readAfter : MethodName := ⟨RX5, "readAfter", "(LLanternState$Tape;)Z"⟩
abbrev cX5_readSetting : ByteArray := prog_7_method_11_code
def yX5_readSetting : MethodName := ⟨RX5, "readSetting", "(LLanternState$Tape;III)Z"⟩
abbrev cX5_isTold : ByteArray := prog_7_method_12_code
def yX5_isTold : MethodName := ⟨RX5, "isTold", "(J)Z"⟩
abbrev cX5_takeSlide : ByteArray := prog_7_method_13_code
def yX5_takeSlide : MethodName := ⟨RX5, "takeSlide", "(LLanternState$Tape;)I"⟩
abbrev cX5_takeHearer : ByteArray := prog_7_method_14_code
def yX5_takeHearer : MethodName := ⟨RX5, "takeHearer", "(LLanternState$Tape;)I"⟩
abbrev cX5_findSlide : ByteArray := prog_7_method_15_code
def yX5_findSlide : MethodName := ⟨RX5, "findSlide", "(J)I"⟩
abbrev cX5_findHearer : ByteArray := prog_7_method_16_code
def yX5_findHearer : MethodName := ⟨RX5, "findHearer", "(J)I"⟩
abbrev cX5_sighers : ByteArray := prog_7_method_17_code
def yX5_sighers : MethodName := ⟨RX5, "sighers", "(II)I"⟩
abbrev cX5_ownSighers : ByteArray := prog_7_method_18_code
def yX5_ownSighers : MethodName := ⟨RX5, "ownSighers", "(II)I"⟩
abbrev cX5_isEnough : ByteArray := prog_7_method_19_code
def yX5_isEnough : MethodName := ⟨RX5, "isEnough", "(I)Z"⟩
abbrev cX5_spreadFrom : ByteArray := prog_7_method_20_code
def yX5_spreadFrom : MethodName := ⟨RX5, "spreadFrom", "(I)I"⟩
def RX6 : String := "LanternState$Search"
def TX6 : u_T := fun k => match k with
  | 0 => ("LanternState$Search", "bestPath", "[I", true)
  | 1 => ("LanternState$Search", "bestSize", "I", false)
  | 2 => ("LanternState$Search", "bestPassed", "I", false)
  | 3 => ("LanternState$Search", "path", "[I", true)
  | 4 => ("LanternState$Search", "passing", "I", false)
  | 5 => ("LanternState$Search", "picture", "I", false)
  | _ => ("LanternState$Search", "behind", "I", false)
def tyX6 : Nat → FieldType := fun k => match k with
  | 0 => .array .int
  | 1 => .int
  | 2 => .int
  | 3 => .array .int
  | 4 => .int
  | 5 => .int
  | _ => .int
abbrev wsX60 : List Cond := u_ws RX6 TX6 7
theorem nmX6 : ∀ a, a < 7 → ∀ b, b < 7 → a ≠ b → (TX6 a).2.1 ≠ (TX6 b).2.1 := by decide +kernel
theorem tyX6_ok : ∀ k, k < 7 → parseFieldDescriptor (TX6 k).2.2.1 = some (tyX6 k) := by decide +kernel
abbrev cX6_init : ByteArray := prog_8_method_1_code
def yX6_init : MethodName := ⟨RX6, "<init>", "()V"⟩
abbrev cX6_findOrder : ByteArray := prog_8_method_2_code
def yX6_findOrder : MethodName := ⟨RX6, "findOrder", "(LLanternState$Scene;LLanternState$State;)I"⟩
abbrev cX6_goOn : ByteArray := prog_8_method_3_code
def yX6_goOn : MethodName := ⟨RX6, "goOn", "(LLanternState$Scene;IIIII)V"⟩
abbrev cX6_keepIfBetter : ByteArray := prog_8_method_4_code
def yX6_keepIfBetter : MethodName := ⟨RX6, "keepIfBetter", "(II)V"⟩
abbrev cX6_findMoved : ByteArray := prog_8_method_5_code
def yX6_findMoved : MethodName := ⟨RX6, "findMoved", "(LLanternState$Scene;LLanternState$State;I)I"⟩
abbrev cX6_findScratches : ByteArray := prog_8_method_6_code
def yX6_findScratches : MethodName := ⟨RX6, "findScratches", "(LLanternState$Scene;LLanternState$State;I)I"⟩
abbrev cX6_leastCells : ByteArray := prog_8_method_7_code
def yX6_leastCells : MethodName := ⟨RX6, "leastCells", "(LLanternState$Scene;III)I"⟩
def RX7 : String := "LanternState$Sentence"
def TX7 : u_T := fun k => match k with
  | 0 => ("LanternState$Sentence", "there", "Z", false)
  | 1 => ("LanternState$Sentence", "ones", "I", false)
  | 2 => ("LanternState$Sentence", "parts", "I", false)
  | 3 => ("LanternState$Sentence", "keys", "[I", true)
  | 4 => ("LanternState$Sentence", "signs", "[I", true)
  | 5 => ("LanternState$Sentence", "numbers", "[I", true)
  | _ => ("LanternState$Sentence", "stack", "[I", true)
def tyX7 : Nat → FieldType := fun k => match k with
  | 0 => .boolean
  | 1 => .int
  | 2 => .int
  | 3 => .array .int
  | 4 => .array .int
  | 5 => .array .int
  | _ => .array .int
abbrev wsX70 : List Cond := u_ws RX7 TX7 7
theorem nmX7 : ∀ a, a < 7 → ∀ b, b < 7 → a ≠ b → (TX7 a).2.1 ≠ (TX7 b).2.1 := by decide +kernel
theorem tyX7_ok : ∀ k, k < 7 → parseFieldDescriptor (TX7 k).2.2.1 = some (tyX7 k) := by decide +kernel
abbrev cX7_init : ByteArray := prog_9_method_1_code
def yX7_init : MethodName := ⟨RX7, "<init>", "()V"⟩
abbrev cX7_copyFrom : ByteArray := prog_9_method_2_code
def yX7_copyFrom : MethodName := ⟨RX7, "copyFrom", "(LLanternState$Sentence;)V"⟩
abbrev cX7_read : ByteArray := prog_9_method_3_code
def yX7_read : MethodName := ⟨RX7, "read", "(LLanternState$Tape;LLanternState$Scene;)Z"⟩
abbrev cX7_readCond : ByteArray := prog_9_method_4_code
def yX7_readCond : MethodName := ⟨RX7, "readCond", "(LLanternState$Tape;LLanternState$Scene;I)Z"⟩
abbrev cX7_readAll : ByteArray := prog_9_method_5_code
def yX7_readAll : MethodName := ⟨RX7, "readAll", "(LLanternState$Tape;LLanternState$Scene;I)Z"⟩
abbrev cX7_readOne : ByteArray := prog_9_method_6_code
def yX7_readOne : MethodName := ⟨RX7, "readOne", "(LLanternState$Tape;LLanternState$Scene;I)Z"⟩
abbrev cX7_readBracket : ByteArray := prog_9_method_7_code
def yX7_readBracket : MethodName := ⟨RX7, "readBracket", "(LLanternState$Tape;LLanternState$Scene;I)Z"⟩
abbrev cX7_readMeasure : ByteArray := prog_9_method_8_code
def yX7_readMeasure : MethodName := ⟨RX7, "readMeasure", "(LLanternState$Tape;)Z"⟩
abbrev cX7_keepLeaf : ByteArray := prog_9_method_9_code
def yX7_keepLeaf : MethodName := ⟨RX7, "keepLeaf", "(LLanternState$Tape;III)Z"⟩
abbrev cX7_keepPart : ByteArray := prog_9_method_10_code
def yX7_keepPart : MethodName := ⟨RX7, "keepPart", "(III)Z"⟩
abbrev cX7_slidesOf : ByteArray := prog_9_method_11_code
def yX7_slidesOf : MethodName := ⟨RX7, "slidesOf", "(LLanternState$Scene;LLanternState$State;)I"⟩
abbrev cX7_leafSlides : ByteArray := prog_9_method_12_code
def yX7_leafSlides : MethodName := ⟨RX7, "leafSlides", "(LLanternState$Scene;LLanternState$State;I)I"⟩
abbrev cX7_isLeafTrue : ByteArray := prog_9_method_13_code
def yX7_isLeafTrue : MethodName := ⟨RX7, "isLeafTrue", "(LLanternState$Scene;LLanternState$State;II)Z"⟩
abbrev cX7_compares : ByteArray := prog_9_method_14_code
def yX7_compares : MethodName := ⟨RX7, "compares", "(II)Z"⟩
def RX8 : String := "LanternState$State"
def TX8 : u_T := fun k => match k with
  | 0 => ("LanternState$State", "hour", "I", false)
  | 1 => ("LanternState$State", "heat", "I", false)
  | 2 => ("LanternState$State", "black", "Z", false)
  | 3 => ("LanternState$State", "so", "I", false)
  | 4 => ("LanternState$State", "cracked", "I", false)
  | 5 => ("LanternState$State", "behind", "I", false)
  | 6 => ("LanternState$State", "allSighs", "I", false)
  | 7 => ("LanternState$State", "seed", "I", false)
  | 8 => ("LanternState$State", "pictures", "[I", true)
  | 9 => ("LanternState$State", "shown", "[I", true)
  | _ => ("LanternState$State", "sighed", "[I", true)
def tyX8 : Nat → FieldType := fun k => match k with
  | 0 => .int
  | 1 => .int
  | 2 => .boolean
  | 3 => .int
  | 4 => .int
  | 5 => .int
  | 6 => .int
  | 7 => .int
  | 8 => .array .int
  | 9 => .array .int
  | _ => .array .int
abbrev wsX80 : List Cond := u_ws RX8 TX8 11
theorem nmX8 : ∀ a, a < 11 → ∀ b, b < 11 → a ≠ b → (TX8 a).2.1 ≠ (TX8 b).2.1 := by decide +kernel
theorem tyX8_ok : ∀ k, k < 11 → parseFieldDescriptor (TX8 k).2.2.1 = some (tyX8 k) := by decide +kernel
abbrev cX8_init : ByteArray := prog_10_method_1_code
def yX8_init : MethodName := ⟨RX8, "<init>", "()V"⟩
abbrev cX8_begin : ByteArray := prog_10_method_2_code
def yX8_begin : MethodName := ⟨RX8, "begin", "(LLanternState$Scene;)V"⟩
abbrev cX8_copyFrom : ByteArray := prog_10_method_3_code
def yX8_copyFrom : MethodName := ⟨RX8, "copyFrom", "(LLanternState$State;)V"⟩
abbrev cX8_showOne : ByteArray := prog_10_method_4_code
def yX8_showOne : MethodName := ⟨RX8, "showOne", "(LLanternState$Scene;II)I"⟩
abbrev cX8_showTwo : ByteArray := prog_10_method_5_code
def yX8_showTwo : MethodName := ⟨RX8, "showTwo", "(LLanternState$Scene;II)I"⟩
abbrev cX8_whyNotShow : ByteArray := prog_10_method_6_code
def yX8_whyNotShow : MethodName := ⟨RX8, "whyNotShow", "(LLanternState$Scene;I)I"⟩
abbrev cX8_waitsFor : ByteArray := prog_10_method_7_code
def yX8_waitsFor : MethodName := ⟨RX8, "waitsFor", "(LLanternState$Scene;I)I"⟩
abbrev cX8_project : ByteArray := prog_10_method_8_code
def yX8_project : MethodName := ⟨RX8, "project", "(LLanternState$Scene;II)I"⟩
abbrev cX8_scratchCell : ByteArray := prog_10_method_9_code
def yX8_scratchCell : MethodName := ⟨RX8, "scratchCell", "(II)I"⟩
abbrev cX8_seatHearer : ByteArray := prog_10_method_10_code
def yX8_seatHearer : MethodName := ⟨RX8, "seatHearer", "(II)I"⟩
abbrev cX8_letHoursGo : ByteArray := prog_10_method_11_code
def yX8_letHoursGo : MethodName := ⟨RX8, "letHoursGo", "(I)I"⟩
abbrev cX8_letHourGo : ByteArray := prog_10_method_12_code
def yX8_letHourGo : MethodName := ⟨RX8, "letHourGo", "()V"⟩
abbrev cX8_drawHours : ByteArray := prog_10_method_13_code
def yX8_drawHours : MethodName := ⟨RX8, "drawHours", "(LLanternState$Scene;II)I"⟩
abbrev cX8_drawOf : ByteArray := prog_10_method_14_code
def yX8_drawOf : MethodName := ⟨RX8, "drawOf", "(I)I"⟩
abbrev cX8_lookalikes : ByteArray := prog_10_method_15_code
def yX8_lookalikes : MethodName := ⟨RX8, "lookalikes", "(LLanternState$Scene;I)I"⟩
def RX9 : String := "LanternState$Tape"
def TX9 : u_T := fun k => match k with
  | 0 => ("LanternState$Tape", "keyCodes", "[J", true)
  | 1 => ("LanternState$Tape", "bytes", "[B", true)
  | 2 => ("LanternState$Tape", "size", "I", false)
  | 3 => ("LanternState$Tape", "most", "I", false)
  | 4 => ("LanternState$Tape", "from", "I", false)
  | 5 => ("LanternState$Tape", "kind", "I", false)
  | 6 => ("LanternState$Tape", "place", "I", false)
  | 7 => ("LanternState$Tape", "value", "I", false)
  | 8 => ("LanternState$Tape", "code", "J", false)
  | 9 => ("LanternState$Tape", "key", "I", false)
  | 10 => ("LanternState$Tape", "fault", "I", false)
  | _ => ("LanternState$Tape", "faultPlace", "I", false)
def tyX9 : Nat → FieldType := fun k => match k with
  | 0 => .array .long
  | 1 => .array .byte
  | 2 => .int
  | 3 => .int
  | 4 => .int
  | 5 => .int
  | 6 => .int
  | 7 => .int
  | 8 => .long
  | 9 => .int
  | 10 => .int
  | _ => .int
abbrev wsX90 : List Cond := u_ws RX9 TX9 12
theorem nmX9 : ∀ a, a < 12 → ∀ b, b < 12 → a ≠ b → (TX9 a).2.1 ≠ (TX9 b).2.1 := by decide +kernel
theorem tyX9_ok : ∀ k, k < 12 → parseFieldDescriptor (TX9 k).2.2.1 = some (tyX9 k) := by decide +kernel
abbrev cX9_init : ByteArray := prog_11_method_1_code
def yX9_init : MethodName := ⟨RX9, "<init>", "()V"⟩
abbrev cX9_put : ByteArray := prog_11_method_2_code
def yX9_put : MethodName := ⟨RX9, "put", "(I)V"⟩
abbrev cX9_pictureFrom : ByteArray := prog_11_method_3_code
def yX9_pictureFrom : MethodName := ⟨RX9, "pictureFrom", "(I)I"⟩
abbrev cX9_at : ByteArray := prog_11_method_4_code
def yX9_at : MethodName := ⟨RX9, "at", "(I)I"⟩
abbrev cX9_open : ByteArray := prog_11_method_5_code
def yX9_open : MethodName := ⟨RX9, "open", "(I)V"⟩
abbrev cX9_fail : ByteArray := prog_11_method_6_code
def yX9_fail : MethodName := ⟨RX9, "fail", "(I)Z"⟩
abbrev cX9_next : ByteArray := prog_11_method_7_code
def yX9_next : MethodName := ⟨RX9, "next", "()V"⟩
abbrev cX9_readRun : ByteArray := prog_11_method_8_code
def yX9_readRun : MethodName := ⟨RX9, "readRun", "()V"⟩
abbrev cX9_isSign : ByteArray := prog_11_method_9_code
def yX9_isSign : MethodName := ⟨RX9, "isSign", "(I)Z"⟩
abbrev cX9_takeNumber : ByteArray := prog_11_method_10_code
def yX9_takeNumber : MethodName := ⟨RX9, "takeNumber", "(II)Z"⟩
abbrev cX9_takeName : ByteArray := prog_11_method_11_code
def yX9_takeName : MethodName := ⟨RX9, "takeName", "()Z"⟩
abbrev cX9_takeKey : ByteArray := prog_11_method_12_code
def yX9_takeKey : MethodName := ⟨RX9, "takeKey", "(I)Z"⟩
abbrev cX9_takeSeat : ByteArray := prog_11_method_13_code
def yX9_takeSeat : MethodName := ⟨RX9, "takeSeat", "()Z"⟩
abbrev cX9_takeLineEnd : ByteArray := prog_11_method_14_code
def yX9_takeLineEnd : MethodName := ⟨RX9, "takeLineEnd", "()Z"⟩
def RX10 : String := "LanternState"
def TX10 : u_T := fun k => match k with
  | 0 => ("LanternState", "tape", "LLanternState$Tape;", true)
  | 1 => ("LanternState", "scene", "LLanternState$Scene;", true)
  | 2 => ("LanternState", "draftScene", "LLanternState$Scene;", true)
  | 3 => ("LanternState", "state", "LLanternState$State;", true)
  | 4 => ("LanternState", "trial", "LLanternState$State;", true)
  | 5 => ("LanternState", "history", "LLanternState$History;", true)
  | 6 => ("LanternState", "rule", "LLanternState$Sentence;", true)
  | 7 => ("LanternState", "draftRule", "LLanternState$Sentence;", true)
  | 8 => ("LanternState", "pages", "LLanternState$Book;", true)
  | 9 => ("LanternState", "search", "LLanternState$Search;", true)
  | 10 => ("LanternState", "notice", "LLanternState$Bill;", true)
  | 11 => ("LanternState", "images", "[LLanternState$Image;", true)
  | 12 => ("LanternState", "toldRow", "[I", true)
  | 13 => ("LanternState", "toldAny", "Z", false)
  | 14 => ("LanternState", "lastFault", "I", false)
  | 15 => ("LanternState", "lastMoved", "I", false)
  | _ => ("LanternState", "lastScratched", "I", false)
def tyX10 : Nat → FieldType := fun k => match k with
  | 0 => .object "LanternState$Tape"
  | 1 => .object "LanternState$Scene"
  | 2 => .object "LanternState$Scene"
  | 3 => .object "LanternState$State"
  | 4 => .object "LanternState$State"
  | 5 => .object "LanternState$History"
  | 6 => .object "LanternState$Sentence"
  | 7 => .object "LanternState$Sentence"
  | 8 => .object "LanternState$Book"
  | 9 => .object "LanternState$Search"
  | 10 => .object "LanternState$Bill"
  | 11 => .array (.object "LanternState$Image")
  | 12 => .array .int
  | 13 => .boolean
  | 14 => .int
  | 15 => .int
  | _ => .int
abbrev wsX100 : List Cond := u_ws RX10 TX10 17
theorem nmX10 : ∀ a, a < 17 → ∀ b, b < 17 → a ≠ b → (TX10 a).2.1 ≠ (TX10 b).2.1 := by decide +kernel
theorem tyX10_ok : ∀ k, k < 17 → parseFieldDescriptor (TX10 k).2.2.1 = some (tyX10 k) := by decide +kernel
abbrev cX10_init : ByteArray := prog_1_method_1_code
def yX10_init : MethodName := ⟨RX10, "<init>", "()V"⟩
abbrev cX10_feed : ByteArray := prog_1_method_2_code
def yX10_feed : MethodName := ⟨RX10, "feed", "(IIIII)I"⟩
abbrev cX10_end : ByteArray := prog_1_method_3_code
def yX10_end : MethodName := ⟨RX10, "end", "(I)Z"⟩
abbrev cX10_session : ByteArray := prog_1_method_4_code
def yX10_session : MethodName := ⟨RX10, "session", "()I"⟩
abbrev cX10_fault : ByteArray := prog_1_method_5_code
def yX10_fault : MethodName := ⟨RX10, "fault", "()I"⟩
abbrev cX10_slide : ByteArray := prog_1_method_6_code
def yX10_slide : MethodName := ⟨RX10, "slide", "(II)I"⟩
abbrev cX10_row : ByteArray := prog_1_method_7_code
def yX10_row : MethodName := ⟨RX10, "row", "(IIII)I"⟩
abbrev cX10_hearer : ByteArray := prog_1_method_8_code
def yX10_hearer : MethodName := ⟨RX10, "hearer", "(II)I"⟩
abbrev cX10_thinks : ByteArray := prog_1_method_9_code
def yX10_thinks : MethodName := ⟨RX10, "thinks", "(III)I"⟩
abbrev cX10_now : ByteArray := prog_1_method_10_code
def yX10_now : MethodName := ⟨RX10, "now", "(I)I"⟩
abbrev cX10_show : ByteArray := prog_1_method_11_code
def yX10_show : MethodName := ⟨RX10, "show", "(II)I"⟩
abbrev cX10_over : ByteArray := prog_1_method_12_code
def yX10_over : MethodName := ⟨RX10, "over", "(II)I"⟩
abbrev cX10_scratch : ByteArray := prog_1_method_13_code
def yX10_scratch : MethodName := ⟨RX10, "scratch", "(III)I"⟩
abbrev cX10_sit : ByteArray := prog_1_method_14_code
def yX10_sit : MethodName := ⟨RX10, "sit", "(II)I"⟩
abbrev cX10_hours : ByteArray := prog_1_method_15_code
def yX10_hours : MethodName := ⟨RX10, "hours", "(I)I"⟩
abbrev cX10_undo : ByteArray := prog_1_method_16_code
def yX10_undo : MethodName := ⟨RX10, "undo", "()I"⟩
abbrev cX10_sighs : ByteArray := prog_1_method_17_code
def yX10_sighs : MethodName := ⟨RX10, "sighs", "(II)I"⟩
abbrev cX10_best : ByteArray := prog_1_method_18_code
def yX10_best : MethodName := ⟨RX10, "best", "(I)I"⟩
abbrev cX10_spreads : ByteArray := prog_1_method_19_code
def yX10_spreads : MethodName := ⟨RX10, "spreads", "(I)I"⟩
abbrev cX10_order : ByteArray := prog_1_method_20_code
def yX10_order : MethodName := ⟨RX10, "order", "()I"⟩
abbrev cX10_orderAt : ByteArray := prog_1_method_21_code
def yX10_orderAt : MethodName := ⟨RX10, "orderAt", "(I)I"⟩
abbrev cX10_moved : ByteArray := prog_1_method_22_code
def yX10_moved : MethodName := ⟨RX10, "moved", "(II)I"⟩
abbrev cX10_movedWho : ByteArray := prog_1_method_23_code
def yX10_movedWho : MethodName := ⟨RX10, "movedWho", "()I"⟩
abbrev cX10_scratches : ByteArray := prog_1_method_24_code
def yX10_scratches : MethodName := ⟨RX10, "scratches", "(I)I"⟩
abbrev cX10_scratched : ByteArray := prog_1_method_25_code
def yX10_scratched : MethodName := ⟨RX10, "scratched", "()I"⟩
abbrev cX10_seen : ByteArray := prog_1_method_26_code
def yX10_seen : MethodName := ⟨RX10, "seen", "()I"⟩
abbrev cX10_alike : ByteArray := prog_1_method_27_code
def yX10_alike : MethodName := ⟨RX10, "alike", "(I)I"⟩
abbrev cX10_differ : ByteArray := prog_1_method_28_code
def yX10_differ : MethodName := ⟨RX10, "differ", "(II)I"⟩
abbrev cX10_parts : ByteArray := prog_1_method_29_code
def yX10_parts : MethodName := ⟨RX10, "parts", "()I"⟩
abbrev cX10_bill : ByteArray := prog_1_method_30_code
def yX10_bill : MethodName := ⟨RX10, "bill", "(I)I"⟩
abbrev cX10_byteAt : ByteArray := prog_1_method_31_code
def yX10_byteAt : MethodName := ⟨RX10, "byteAt", "(I)I"⟩
abbrev cX10_drawn : ByteArray := prog_1_method_32_code
def yX10_drawn : MethodName := ⟨RX10, "drawn", "(II)I"⟩
abbrev cX10_odds : ByteArray := prog_1_method_33_code
def yX10_odds : MethodName := ⟨RX10, "odds", "(III)I"⟩
abbrev cX10_book : ByteArray := prog_1_method_34_code
def yX10_book : MethodName := ⟨RX10, "book", "(I)I"⟩
abbrev cX10_told : ByteArray := prog_1_method_35_code
def yX10_told : MethodName := ⟨RX10, "told", "(I)I"⟩
abbrev cX10_sentence : ByteArray := prog_1_method_36_code
def yX10_sentence : MethodName := ⟨RX10, "sentence", "()I"⟩
abbrev cX10_said : ByteArray := prog_1_method_37_code
def yX10_said : MethodName := ⟨RX10, "said", "(I)I"⟩
abbrev cX10_image : ByteArray := prog_1_method_38_code
def yX10_image : MethodName := ⟨RX10, "image", "(I)Z"⟩
abbrev cX10_restore : ByteArray := prog_1_method_39_code
def yX10_restore : MethodName := ⟨RX10, "restore", "(I)Z"⟩
abbrev cX10_count : ByteArray := prog_1_method_40_code
def yX10_count : MethodName := ⟨RX10, "count", "(I)I"⟩
abbrev cX10_isSlide : ByteArray := prog_1_method_41_code
def yX10_isSlide : MethodName := ⟨RX10, "isSlide", "(I)Z"⟩
abbrev cX10_isHearer : ByteArray := prog_1_method_42_code
def yX10_isHearer : MethodName := ⟨RX10, "isHearer", "(I)Z"⟩
abbrev cX10_isWay : ByteArray := prog_1_method_43_code
def yX10_isWay : MethodName := ⟨RX10, "isWay", "(I)Z"⟩
abbrev cX10_isPlace : ByteArray := prog_1_method_44_code
def yX10_isPlace : MethodName := ⟨RX10, "isPlace", "(I)Z"⟩
abbrev cX10_isSeat : ByteArray := prog_1_method_45_code
def yX10_isSeat : MethodName := ⟨RX10, "isSeat", "(I)Z"⟩
abbrev cX10_sighers : ByteArray := prog_1_method_46_code
def yX10_sighers : MethodName := ⟨RX10, "sighers", "(II)I"⟩
abbrev cX10_keptShowing : ByteArray := prog_1_method_47_code
def yX10_keptShowing : MethodName := ⟨RX10, "keptShowing", "(I)I"⟩
abbrev cX10_closeText : ByteArray := prog_1_method_48_code
def yX10_closeText : MethodName := ⟨RX10, "closeText", "()V"⟩
def RX11 : String := "LanternStateModel"
def TX11 : u_T := fun k => match k with
  | 0 => ("LanternStateModel", "thrown", "I", false)
  | 1 => ("LanternStateModel", "tape", "[I", true)
  | 2 => ("LanternStateModel", "taped", "I", false)
  | 3 => ("LanternStateModel", "size", "I", false)
  | 4 => ("LanternStateModel", "limit", "I", false)
  | 5 => ("LanternStateModel", "to", "I", false)
  | 6 => ("LanternStateModel", "from", "I", false)
  | 7 => ("LanternStateModel", "kind", "I", false)
  | 8 => ("LanternStateModel", "number", "I", false)
  | 9 => ("LanternStateModel", "sign", "I", false)
  | 10 => ("LanternStateModel", "fault", "I", false)
  | 11 => ("LanternStateModel", "place", "I", false)
  | 12 => ("LanternStateModel", "word", "J", false)
  | 13 => ("LanternStateModel", "told", "I", false)
  | 14 => ("LanternStateModel", "now", "[I", true)
  | 15 => ("LanternStateModel", "read", "[I", true)
  | 16 => ("LanternStateModel", "kept", "[I", true)
  | 17 => ("LanternStateModel", "snaps", "[I", true)
  | 18 => ("LanternStateModel", "aside", "[I", true)
  | 19 => ("LanternStateModel", "name", "[J", true)
  | 20 => ("LanternStateModel", "readName", "[J", true)
  | 21 => ("LanternStateModel", "keptName", "[J", true)
  | 22 => ("LanternStateModel", "isKept", "[Z", true)
  | 23 => ("LanternStateModel", "onces", "[Z", true)
  | 24 => ("LanternStateModel", "snapMany", "I", false)
  | 25 => ("LanternStateModel", "order", "[I", true)
  | 26 => ("LanternStateModel", "ordered", "[I", true)
  | 27 => ("LanternStateModel", "orderMany", "I", false)
  | 28 => ("LanternStateModel", "orderMost", "I", false)
  | 29 => ("LanternStateModel", "passing", "I", false)
  | 30 => ("LanternStateModel", "movedWho", "I", false)
  | 31 => ("LanternStateModel", "scratched", "I", false)
  | 32 => ("LanternStateModel", "text", "[I", true)
  | 33 => ("LanternStateModel", "texts", "I", false)
  | 34 => ("LanternStateModel", "seed", "I", false)
  | 35 => ("LanternStateModel", "line", "[I", true)
  | 36 => ("LanternStateModel", "written", "[I", true)
  | 37 => ("LanternStateModel", "lineMany", "I", false)
  | 38 => ("LanternStateModel", "hasWritten", "Z", false)
  | 39 => ("LanternStateModel", "node", "[I", true)
  | 40 => ("LanternStateModel", "nodes", "I", false)
  | 41 => ("LanternStateModel", "onesMany", "I", false)
  | 42 => ("LanternStateModel", "within", "I", false)
  | _ => ("LanternStateModel", "top", "I", false)
def tyX11 : Nat → FieldType := fun k => match k with
  | 0 => .int
  | 1 => .array .int
  | 2 => .int
  | 3 => .int
  | 4 => .int
  | 5 => .int
  | 6 => .int
  | 7 => .int
  | 8 => .int
  | 9 => .int
  | 10 => .int
  | 11 => .int
  | 12 => .long
  | 13 => .int
  | 14 => .array .int
  | 15 => .array .int
  | 16 => .array .int
  | 17 => .array .int
  | 18 => .array .int
  | 19 => .array .long
  | 20 => .array .long
  | 21 => .array .long
  | 22 => .array .boolean
  | 23 => .array .boolean
  | 24 => .int
  | 25 => .array .int
  | 26 => .array .int
  | 27 => .int
  | 28 => .int
  | 29 => .int
  | 30 => .int
  | 31 => .int
  | 32 => .array .int
  | 33 => .int
  | 34 => .int
  | 35 => .array .int
  | 36 => .array .int
  | 37 => .int
  | 38 => .boolean
  | 39 => .array .int
  | 40 => .int
  | 41 => .int
  | 42 => .int
  | _ => .int
abbrev wsX110 : List Cond := u_ws RX11 TX11 44
theorem nmX11 : ∀ a, a < 44 → ∀ b, b < 44 → a ≠ b → (TX11 a).2.1 ≠ (TX11 b).2.1 := by decide +kernel
theorem tyX11_ok : ∀ k, k < 44 → parseFieldDescriptor (TX11 k).2.2.1 = some (tyX11 k) := by decide +kernel
abbrev cX11_thrown : ByteArray := prog_13_method_1_code
def yX11_thrown : MethodName := ⟨RX11, "thrown", "()I"⟩
abbrev cX11_refuse : ByteArray := prog_13_method_2_code
def yX11_refuse : MethodName := ⟨RX11, "refuse", "()I"⟩
abbrev cX11_come : ByteArray := prog_13_method_3_code
def yX11_come : MethodName := ⟨RX11, "come", "(I)V"⟩
abbrev cX11_feed : ByteArray := prog_13_method_4_code
def yX11_feed : MethodName := ⟨RX11, "feed", "(IIIII)I"⟩
abbrev cX11_end : ByteArray := prog_13_method_5_code
def yX11_end : MethodName := ⟨RX11, "end", "(I)Z"⟩
abbrev cX11_take : ByteArray := prog_13_method_6_code
def yX11_take : MethodName := ⟨RX11, "take", "()I"⟩
abbrev cX11_isIn : ByteArray := prog_13_method_7_code
def yX11_isIn : MethodName := ⟨RX11, "isIn", "(III)Z"⟩
abbrev cX11_has : ByteArray := prog_13_method_8_code
def yX11_has : MethodName := ⟨RX11, "has", "(II)Z"⟩
abbrev cX11_bits : ByteArray := prog_13_method_9_code
def yX11_bits : MethodName := ⟨RX11, "bits", "(I)I"⟩
abbrev cX11_least : ByteArray := prog_13_method_10_code
def yX11_least : MethodName := ⟨RX11, "least", "(II)I"⟩
abbrev cX11_size : ByteArray := prog_13_method_11_code
def yX11_size : MethodName := ⟨RX11, "size", "(I)I"⟩
abbrev cX11_tapeAt : ByteArray := prog_13_method_13_code
def yX11_tapeAt : MethodName := ⟨RX11, "tapeAt", "(I)I"⟩
abbrev cX11_isDigit : ByteArray := prog_13_method_14_code
def yX11_isDigit : MethodName := ⟨RX11, "isDigit", "(I)Z"⟩
abbrev cX11_isLetter : ByteArray := prog_13_method_15_code
def yX11_isLetter : MethodName := ⟨RX11, "isLetter", "(I)Z"⟩
abbrev cX11_go : ByteArray := prog_13_method_16_code
def yX11_go : MethodName := ⟨RX11, "go", "()V"⟩
abbrev cX11_spelt : ByteArray := prog_13_method_17_code
def yX11_spelt : MethodName := ⟨RX11, "spelt", "(IIIIIII)J"⟩
abbrev cX11_wordOf : ByteArray := prog_13_method_18_code
def yX11_wordOf : MethodName := ⟨RX11, "wordOf", "(I)J"⟩
abbrev cX11_isWord : ByteArray := prog_13_method_19_code
def yX11_isWord : MethodName := ⟨RX11, "isWord", "(I)Z"⟩
abbrev cX11_isSign : ByteArray := prog_13_method_20_code
def yX11_isSign : MethodName := ⟨RX11, "isSign", "(I)Z"⟩
abbrev cX11_isName : ByteArray := prog_13_method_21_code
def yX11_isName : MethodName := ⟨RX11, "isName", "()Z"⟩
abbrev cX11_bad : ByteArray := prog_13_method_22_code
def yX11_bad : MethodName := ⟨RX11, "bad", "(I)Z"⟩
abbrev cX11_readNumber : ByteArray := prog_13_method_23_code
def yX11_readNumber : MethodName := ⟨RX11, "readNumber", "(II)Z"⟩
abbrev cX11_readEnd : ByteArray := prog_13_method_24_code
def yX11_readEnd : MethodName := ⟨RX11, "readEnd", "()Z"⟩
abbrev cX11_begin : ByteArray := prog_13_method_25_code
def yX11_begin : MethodName := ⟨RX11, "begin", "(I)V"⟩
abbrev cX11_init : ByteArray := prog_13_method_26_code
def yX11_init : MethodName := ⟨RX11, "<init>", "()V"⟩
abbrev cX11_startRead : ByteArray := prog_13_method_27_code
def yX11_startRead : MethodName := ⟨RX11, "startRead", "()V"⟩
abbrev cX11_startSo : ByteArray := prog_13_method_28_code
def yX11_startSo : MethodName := ⟨RX11, "startSo", "()V"⟩
abbrev cX11_findIn : ByteArray := prog_13_method_29_code
def yX11_findIn : MethodName := ⟨RX11, "findIn", "([JIIJ)I"⟩
abbrev cX11_readNew : ByteArray := prog_13_method_30_code
def yX11_readNew : MethodName := ⟨RX11, "readNew", "(I)Z"⟩
abbrev cX11_isOne : ByteArray := prog_13_method_31_code
def yX11_isOne : MethodName := ⟨RX11, "isOne", "(II)Z"⟩
abbrev cX11_isSlideHere : ByteArray := prog_13_method_32_code
def yX11_isSlideHere : MethodName := ⟨RX11, "isSlideHere", "()Z"⟩
abbrev cX11_isHearerHere : ByteArray := prog_13_method_33_code
def yX11_isHearerHere : MethodName := ⟨RX11, "isHearerHere", "()Z"⟩
abbrev cX11_readFirst : ByteArray := prog_13_method_34_code
def yX11_readFirst : MethodName := ⟨RX11, "readFirst", "(II)Z"⟩
abbrev cX11_put : ByteArray := prog_13_method_35_code
def yX11_put : MethodName := ⟨RX11, "put", "(IZ)Z"⟩
abbrev cX11_isSeat : ByteArray := prog_13_method_36_code
def yX11_isSeat : MethodName := ⟨RX11, "isSeat", "()Z"⟩
abbrev cX11_isFresh : ByteArray := prog_13_method_37_code
def yX11_isFresh : MethodName := ⟨RX11, "isFresh", "(I)Z"⟩
abbrev cX11_readSlide : ByteArray := prog_13_method_38_code
def yX11_readSlide : MethodName := ⟨RX11, "readSlide", "()Z"⟩
abbrev cX11_readHearer : ByteArray := prog_13_method_39_code
def yX11_readHearer : MethodName := ⟨RX11, "readHearer", "()Z"⟩
abbrev cX11_readThinks : ByteArray := prog_13_method_40_code
def yX11_readThinks : MethodName := ⟨RX11, "readThinks", "(I)Z"⟩
abbrev cX11_readNear : ByteArray := prog_13_method_41_code
def yX11_readNear : MethodName := ⟨RX11, "readNear", "()Z"⟩
abbrev cX11_readAfter : ByteArray := prog_13_method_42_code
def yX11_readAfter : MethodName := ⟨RX11, "readAfter", "()Z"⟩
abbrev cX11_readLine : ByteArray := prog_13_method_43_code
def yX11_readLine : MethodName := ⟨RX11, "readLine", "()Z"⟩
abbrev cX11_session : ByteArray := prog_13_method_44_code
def yX11_session : MethodName := ⟨RX11, "session", "()I"⟩
abbrev cX11_fault : ByteArray := prog_13_method_45_code
def yX11_fault : MethodName := ⟨RX11, "fault", "()I"⟩
abbrev cX11_rowIn : ByteArray := prog_13_method_46_code
def yX11_rowIn : MethodName := ⟨RX11, "rowIn", "(II)I"⟩
abbrev cX11_rowOf : ByteArray := prog_13_method_47_code
def yX11_rowOf : MethodName := ⟨RX11, "rowOf", "(II)I"⟩
abbrev cX11_turned : ByteArray := prog_13_method_48_code
def yX11_turned : MethodName := ⟨RX11, "turned", "(II)I"⟩
abbrev cX11_seenFrom : ByteArray := prog_13_method_49_code
def yX11_seenFrom : MethodName := ⟨RX11, "seenFrom", "(II)I"⟩
abbrev cX11_looksLike : ByteArray := prog_13_method_50_code
def yX11_looksLike : MethodName := ⟨RX11, "looksLike", "(II)Z"⟩
abbrev cX11_isSlide : ByteArray := prog_13_method_51_code
def yX11_isSlide : MethodName := ⟨RX11, "isSlide", "(I)Z"⟩
abbrev cX11_isHearer : ByteArray := prog_13_method_52_code
def yX11_isHearer : MethodName := ⟨RX11, "isHearer", "(I)Z"⟩
abbrev cX11_isCracked : ByteArray := prog_13_method_53_code
def yX11_isCracked : MethodName := ⟨RX11, "isCracked", "(I)Z"⟩
abbrev cX11_isSo : ByteArray := prog_13_method_54_code
def yX11_isSo : MethodName := ⟨RX11, "isSo", "(I)Z"⟩
abbrev cX11_seats : ByteArray := prog_13_method_55_code
def yX11_seats : MethodName := ⟨RX11, "seats", "()I"⟩
abbrev cX11_slide : ByteArray := prog_13_method_56_code
def yX11_slide : MethodName := ⟨RX11, "slide", "(II)I"⟩
abbrev cX11_row : ByteArray := prog_13_method_57_code
def yX11_row : MethodName := ⟨RX11, "row", "(IIII)I"⟩
abbrev cX11_hearer : ByteArray := prog_13_method_58_code
def yX11_hearer : MethodName := ⟨RX11, "hearer", "(II)I"⟩
abbrev cX11_thinks : ByteArray := prog_13_method_59_code
def yX11_thinks : MethodName := ⟨RX11, "thinks", "(III)I"⟩
abbrev cX11_allSighs : ByteArray := prog_13_method_60_code
def yX11_allSighs : MethodName := ⟨RX11, "allSighs", "()I"⟩
abbrev cX11_now : ByteArray := prog_13_method_61_code
def yX11_now : MethodName := ⟨RX11, "now", "(I)I"⟩
abbrev cX11_sighsAlone : ByteArray := prog_13_method_62_code
def yX11_sighsAlone : MethodName := ⟨RX11, "sighsAlone", "(II)Z"⟩
abbrev cX11_spreadFrom : ByteArray := prog_13_method_63_code
def yX11_spreadFrom : MethodName := ⟨RX11, "spreadFrom", "(I)I"⟩
abbrev cX11_sighsBy : ByteArray := prog_13_method_64_code
def yX11_sighsBy : MethodName := ⟨RX11, "sighsBy", "(II)I"⟩
abbrev cX11_sighsFor : ByteArray := prog_13_method_65_code
def yX11_sighsFor : MethodName := ⟨RX11, "sighsFor", "(II)I"⟩
abbrev cX11_sighs : ByteArray := prog_13_method_66_code
def yX11_sighs : MethodName := ⟨RX11, "sighs", "(II)I"⟩
abbrev cX11_best : ByteArray := prog_13_method_67_code
def yX11_best : MethodName := ⟨RX11, "best", "(I)I"⟩
abbrev cX11_spreads : ByteArray := prog_13_method_68_code
def yX11_spreads : MethodName := ⟨RX11, "spreads", "(I)I"⟩
abbrev cX11_snap : ByteArray := prog_13_method_69_code
def yX11_snap : MethodName := ⟨RX11, "snap", "()V"⟩
abbrev cX11_waits : ByteArray := prog_13_method_70_code
def yX11_waits : MethodName := ⟨RX11, "waits", "(I)Z"⟩
abbrev cX11_why : ByteArray := prog_13_method_71_code
def yX11_why : MethodName := ⟨RX11, "why", "(III)I"⟩
abbrev cX11_light : ByteArray := prog_13_method_72_code
def yX11_light : MethodName := ⟨RX11, "light", "(II)I"⟩
abbrev cX11_live : ByteArray := prog_13_method_73_code
def yX11_live : MethodName := ⟨RX11, "live", "(III)I"⟩
abbrev cX11_show : ByteArray := prog_13_method_74_code
def yX11_show : MethodName := ⟨RX11, "show", "(II)I"⟩
abbrev cX11_over : ByteArray := prog_13_method_75_code
def yX11_over : MethodName := ⟨RX11, "over", "(II)I"⟩
abbrev cX11_act : ByteArray := prog_13_method_76_code
def yX11_act : MethodName := ⟨RX11, "act", "(III)I"⟩
abbrev cX11_scratch : ByteArray := prog_13_method_77_code
def yX11_scratch : MethodName := ⟨RX11, "scratch", "(III)I"⟩
abbrev cX11_sit : ByteArray := prog_13_method_78_code
def yX11_sit : MethodName := ⟨RX11, "sit", "(II)I"⟩
abbrev cX11_undo : ByteArray := prog_13_method_79_code
def yX11_undo : MethodName := ⟨RX11, "undo", "()I"⟩
abbrev cX11_oneHour : ByteArray := prog_13_method_80_code
def yX11_oneHour : MethodName := ⟨RX11, "oneHour", "()V"⟩
abbrev cX11_passHours : ByteArray := prog_13_method_81_code
def yX11_passHours : MethodName := ⟨RX11, "passHours", "(I)I"⟩
abbrev cX11_hours : ByteArray := prog_13_method_82_code
def yX11_hours : MethodName := ⟨RX11, "hours", "(I)I"⟩
abbrev cX11_endOrder : ByteArray := prog_13_method_83_code
def yX11_endOrder : MethodName := ⟨RX11, "endOrder", "(II)V"⟩
abbrev cX11_orderFrom : ByteArray := prog_13_method_84_code
def yX11_orderFrom : MethodName := ⟨RX11, "orderFrom", "(IIIII)V"⟩
abbrev cX11_order : ByteArray := prog_13_method_85_code
def yX11_order : MethodName := ⟨RX11, "order", "()I"⟩
abbrev cX11_orderAt : ByteArray := prog_13_method_86_code
def yX11_orderAt : MethodName := ⟨RX11, "orderAt", "(I)I"⟩
abbrev cX11_moved : ByteArray := prog_13_method_87_code
def yX11_moved : MethodName := ⟨RX11, "moved", "(II)I"⟩
abbrev cX11_movedWho : ByteArray := prog_13_method_88_code
def yX11_movedWho : MethodName := ⟨RX11, "movedWho", "()I"⟩
abbrev cX11_scratches : ByteArray := prog_13_method_89_code
def yX11_scratches : MethodName := ⟨RX11, "scratches", "(I)I"⟩
abbrev cX11_scratched : ByteArray := prog_13_method_90_code
def yX11_scratched : MethodName := ⟨RX11, "scratched", "()I"⟩
abbrev cX11_seen : ByteArray := prog_13_method_91_code
def yX11_seen : MethodName := ⟨RX11, "seen", "()I"⟩
abbrev cX11_alike : ByteArray := prog_13_method_92_code
def yX11_alike : MethodName := ⟨RX11, "alike", "(I)I"⟩
abbrev cX11_differ : ByteArray := prog_13_method_93_code
def yX11_differ : MethodName := ⟨RX11, "differ", "(II)I"⟩
abbrev cX11_unevenBy : ByteArray := prog_13_method_94_code
def yX11_unevenBy : MethodName := ⟨RX11, "unevenBy", "(I)I"⟩
abbrev cX11_parts : ByteArray := prog_13_method_95_code
def yX11_parts : MethodName := ⟨RX11, "parts", "()I"⟩
abbrev cX11_write : ByteArray := prog_13_method_96_code
def yX11_write : MethodName := ⟨RX11, "write", "(I)V"⟩
abbrev cX11_writeWord : ByteArray := prog_13_method_97_code
def yX11_writeWord : MethodName := ⟨RX11, "writeWord", "(J)V"⟩
abbrev cX11_writeNext : ByteArray := prog_13_method_98_code
def yX11_writeNext : MethodName := ⟨RX11, "writeNext", "(J)V"⟩
abbrev cX11_bill : ByteArray := prog_13_method_99_code
def yX11_bill : MethodName := ⟨RX11, "bill", "(I)I"⟩
abbrev cX11_byteAt : ByteArray := prog_13_method_100_code
def yX11_byteAt : MethodName := ⟨RX11, "byteAt", "(I)I"⟩
abbrev cX11_draw : ByteArray := prog_13_method_101_code
def yX11_draw : MethodName := ⟨RX11, "draw", "(I)I"⟩
abbrev cX11_drawHours : ByteArray := prog_13_method_102_code
def yX11_drawHours : MethodName := ⟨RX11, "drawHours", "(II)I"⟩
abbrev cX11_drawn : ByteArray := prog_13_method_103_code
def yX11_drawn : MethodName := ⟨RX11, "drawn", "(II)I"⟩
abbrev cX11_layAside : ByteArray := prog_13_method_104_code
def yX11_layAside : MethodName := ⟨RX11, "layAside", "()V"⟩
abbrev cX11_takeBack : ByteArray := prog_13_method_105_code
def yX11_takeBack : MethodName := ⟨RX11, "takeBack", "()V"⟩
abbrev cX11_odds : ByteArray := prog_13_method_106_code
def yX11_odds : MethodName := ⟨RX11, "odds", "(III)I"⟩
abbrev cX11_keep : ByteArray := prog_13_method_107_code
def yX11_keep : MethodName := ⟨RX11, "keep", "(IZ)Z"⟩
abbrev cX11_readOtherSlide : ByteArray := prog_13_method_108_code
def yX11_readOtherSlide : MethodName := ⟨RX11, "readOtherSlide", "()Z"⟩
abbrev cX11_readCell : ByteArray := prog_13_method_109_code
def yX11_readCell : MethodName := ⟨RX11, "readCell", "(I)Z"⟩
abbrev cX11_readSlideDoes : ByteArray := prog_13_method_110_code
def yX11_readSlideDoes : MethodName := ⟨RX11, "readSlideDoes", "(I)Z"⟩
abbrev cX11_readHearerDoes : ByteArray := prog_13_method_111_code
def yX11_readHearerDoes : MethodName := ⟨RX11, "readHearerDoes", "(I)Z"⟩
abbrev cX11_readBookLine : ByteArray := prog_13_method_112_code
def yX11_readBookLine : MethodName := ⟨RX11, "readBookLine", "()Z"⟩
abbrev cX11_goBy : ByteArray := prog_13_method_113_code
def yX11_goBy : MethodName := ⟨RX11, "goBy", "(I)I"⟩
abbrev cX11_book : ByteArray := prog_13_method_114_code
def yX11_book : MethodName := ⟨RX11, "book", "(I)I"⟩
abbrev cX11_stay : ByteArray := prog_13_method_115_code
def yX11_stay : MethodName := ⟨RX11, "stay", "(Z)V"⟩
abbrev cX11_told : ByteArray := prog_13_method_116_code
def yX11_told : MethodName := ⟨RX11, "told", "(I)I"⟩
abbrev cX11_saysOne : ByteArray := prog_13_method_117_code
def yX11_saysOne : MethodName := ⟨RX11, "saysOne", "(IIII)I"⟩
abbrev cX11_readOr : ByteArray := prog_13_method_118_code
def yX11_readOr : MethodName := ⟨RX11, "readOr", "()Z"⟩
abbrev cX11_readAnd : ByteArray := prog_13_method_119_code
def yX11_readAnd : MethodName := ⟨RX11, "readAnd", "()Z"⟩
abbrev cX11_readSaid : ByteArray := prog_13_method_120_code
def yX11_readSaid : MethodName := ⟨RX11, "readSaid", "()Z"⟩
abbrev cX11_readNot : ByteArray := prog_13_method_121_code
def yX11_readNot : MethodName := ⟨RX11, "readNot", "()Z"⟩
abbrev cX11_readBracket : ByteArray := prog_13_method_122_code
def yX11_readBracket : MethodName := ⟨RX11, "readBracket", "()Z"⟩
abbrev cX11_readOf : ByteArray := prog_13_method_123_code
def yX11_readOf : MethodName := ⟨RX11, "readOf", "(I)Z"⟩
abbrev cX11_readCompare : ByteArray := prog_13_method_124_code
def yX11_readCompare : MethodName := ⟨RX11, "readCompare", "(I)Z"⟩
abbrev cX11_sentence : ByteArray := prog_13_method_125_code
def yX11_sentence : MethodName := ⟨RX11, "sentence", "()I"⟩
abbrev cX11_holds : ByteArray := prog_13_method_126_code
def yX11_holds : MethodName := ⟨RX11, "holds", "(II)Z"⟩
abbrev cX11_said : ByteArray := prog_13_method_127_code
def yX11_said : MethodName := ⟨RX11, "said", "(I)I"⟩
abbrev cX11_image : ByteArray := prog_13_method_128_code
def yX11_image : MethodName := ⟨RX11, "image", "(I)Z"⟩
abbrev cX11_restore : ByteArray := prog_13_method_129_code
def yX11_restore : MethodName := ⟨RX11, "restore", "(I)Z"⟩
abbrev cX11_count : ByteArray := prog_13_method_130_code
def yX11_count : MethodName := ⟨RX11, "count", "(I)I"⟩
def RJx145de : String := "java/io/Serializable"
def TJx145de : u_T := fun k => match k with
  | _ => ("", "", "", false)
def tyJx145de : Nat → FieldType := fun k => match k with
  | _ => .int
abbrev wsJx145de0 : List Cond := u_ws RJx145de TJx145de 0
theorem nmJx145de : ∀ a, a < 0 → ∀ b, b < 0 → a ≠ b → (TJx145de a).2.1 ≠ (TJx145de b).2.1 := by decide +kernel
theorem tyJx145de_ok : ∀ k, k < 0 → parseFieldDescriptor (TJx145de k).2.2.1 = some (tyJx145de k) := by decide +kernel
def RJx9f9b0 : String := "java/lang/CharSequence"
def TJx9f9b0 : u_T := fun k => match k with
  | _ => ("", "", "", false)
def tyJx9f9b0 : Nat → FieldType := fun k => match k with
  | _ => .int
abbrev wsJx9f9b00 : List Cond := u_ws RJx9f9b0 TJx9f9b0 0
theorem nmJx9f9b0 : ∀ a, a < 0 → ∀ b, b < 0 → a ≠ b → (TJx9f9b0 a).2.1 ≠ (TJx9f9b0 b).2.1 := by decide +kernel
theorem tyJx9f9b0_ok : ∀ k, k < 0 → parseFieldDescriptor (TJx9f9b0 k).2.2.1 = some (tyJx9f9b0 k) := by decide +kernel
def RJxb160c : String := "java/lang/Comparable"
def TJxb160c : u_T := fun k => match k with
  | _ => ("", "", "", false)
def tyJxb160c : Nat → FieldType := fun k => match k with
  | _ => .int
abbrev wsJxb160c0 : List Cond := u_ws RJxb160c TJxb160c 0
theorem nmJxb160c : ∀ a, a < 0 → ∀ b, b < 0 → a ≠ b → (TJxb160c a).2.1 ≠ (TJxb160c b).2.1 := by decide +kernel
theorem tyJxb160c_ok : ∀ k, k < 0 → parseFieldDescriptor (TJxb160c k).2.2.1 = some (tyJxb160c k) := by decide +kernel
def RJ6 : String := "java/lang/Integer"
def TJ6 : u_T := fun k => match k with
  | _ => ("", "", "", false)
def tyJ6 : Nat → FieldType := fun k => match k with
  | _ => .int
abbrev wsJ60 : List Cond := u_ws RJ6 TJ6 0
theorem nmJ6 : ∀ a, a < 0 → ∀ b, b < 0 → a ≠ b → (TJ6 a).2.1 ≠ (TJ6 b).2.1 := by decide +kernel
theorem tyJ6_ok : ∀ k, k < 0 → parseFieldDescriptor (TJ6 k).2.2.1 = some (tyJ6 k) := by decide +kernel
abbrev cJ6_bitCount_0f7a4 : ByteArray := prog_18_method_49_code
def yJ6_bitCount_0f7a4 : MethodName := ⟨RJ6, "bitCount", "(I)I"⟩
def RJ9 : String := "java/lang/Math"
def TJ9 : u_T := fun k => match k with
  | _ => ("", "", "", false)
def tyJ9 : Nat → FieldType := fun k => match k with
  | _ => .int
abbrev wsJ90 : List Cond := u_ws RJ9 TJ9 0
theorem nmJ9 : ∀ a, a < 0 → ∀ b, b < 0 → a ≠ b → (TJ9 a).2.1 ≠ (TJ9 b).2.1 := by decide +kernel
theorem tyJ9_ok : ∀ k, k < 0 → parseFieldDescriptor (TJ9 k).2.2.1 = some (tyJ9 k) := by decide +kernel
abbrev cJ9_abs_0f7a4 : ByteArray := prog_19_method_59_code
def yJ9_abs_0f7a4 : MethodName := ⟨RJ9, "abs", "(I)I"⟩
abbrev cJ9_max_7cf53 : ByteArray := prog_19_method_65_code
def yJ9_max_7cf53 : MethodName := ⟨RJ9, "max", "(II)I"⟩
abbrev cJ9_min_7cf53 : ByteArray := prog_19_method_69_code
def yJ9_min_7cf53 : MethodName := ⟨RJ9, "min", "(II)I"⟩
def RJ0 : String := "java/lang/String"
def TJ0 : u_T := fun k => match k with
  | _ => ("", "", "", false)
def tyJ0 : Nat → FieldType := fun k => match k with
  | _ => .int
abbrev wsJ00 : List Cond := u_ws RJ0 TJ0 0
theorem nmJ0 : ∀ a, a < 0 → ∀ b, b < 0 → a ≠ b → (TJ0 a).2.1 ≠ (TJ0 b).2.1 := by decide +kernel
theorem tyJ0_ok : ∀ k, k < 0 → parseFieldDescriptor (TJ0 k).2.2.1 = some (tyJ0 k) := by decide +kernel
abbrev cJ0_length_8abf5 : ByteArray := prog_21_method_54_code
def yJ0_length_8abf5 : MethodName := ⟨RJ0, "length", "()I"⟩
abbrev cJ0_charAt_5068e : ByteArray := prog_21_method_56_code
def yJ0_charAt_5068e : MethodName := ⟨RJ0, "charAt", "(I)C"⟩
abbrev cJ0_coder_7d493 : ByteArray := prog_21_method_152_code
def yJ0_coder_7d493 : MethodName := ⟨RJ0, "coder", "()B"⟩
abbrev cJ0_isLatin1_aae02 : ByteArray := prog_21_method_154_code
def yJ0_isLatin1_aae02 : MethodName := ⟨RJ0, "isLatin1", "()Z"⟩
abbrev cJ0_checkIndex_df160 : ByteArray := prog_21_method_155_code
def yJ0_checkIndex_df160 : MethodName := ⟨RJ0, "checkIndex", "(II)V"⟩
def RJ1 : String := "java/lang/StringLatin1"
def TJ1 : u_T := fun k => match k with
  | _ => ("", "", "", false)
def tyJ1 : Nat → FieldType := fun k => match k with
  | _ => .int
abbrev wsJ10 : List Cond := u_ws RJ1 TJ1 0
theorem nmJ1 : ∀ a, a < 0 → ∀ b, b < 0 → a ≠ b → (TJ1 a).2.1 ≠ (TJ1 b).2.1 := by decide +kernel
theorem tyJ1_ok : ∀ k, k < 0 → parseFieldDescriptor (TJ1 k).2.2.1 = some (tyJ1 k) := by decide +kernel
abbrev cJ1_charAt_3b067 : ByteArray := prog_22_method_2_code
def yJ1_charAt_3b067 : MethodName := ⟨RJ1, "charAt", "([BI)C"⟩
def RJ2 : String := "java/lang/StringUTF16"
def TJ2 : u_T := fun k => match k with
  | _ => ("", "", "", false)
def tyJ2 : Nat → FieldType := fun k => match k with
  | _ => .int
abbrev wsJ20 : List Cond := u_ws RJ2 TJ2 0
theorem nmJ2 : ∀ a, a < 0 → ∀ b, b < 0 → a ≠ b → (TJ2 a).2.1 ≠ (TJ2 b).2.1 := by decide +kernel
theorem tyJ2_ok : ∀ k, k < 0 → parseFieldDescriptor (TJ2 k).2.2.1 = some (tyJ2 k) := by decide +kernel
abbrev cJ2_getChar_3b067 : ByteArray := prog_23_method_5_code
def yJ2_getChar_3b067 : MethodName := ⟨RJ2, "getChar", "([BI)C"⟩
abbrev cJ2_length_9d52b : ByteArray := prog_23_method_6_code
def yJ2_length_9d52b : MethodName := ⟨RJ2, "length", "([B)I"⟩
abbrev cJ2_charAt_3b067 : ByteArray := prog_23_method_83_code
def yJ2_charAt_3b067 : MethodName := ⟨RJ2, "charAt", "([BI)C"⟩
abbrev cJ2_checkIndex_2214a : ByteArray := prog_23_method_91_code
def yJ2_checkIndex_2214a : MethodName := ⟨RJ2, "checkIndex", "(I[B)V"⟩
def RJ10 : String := "java/lang/System"
def TJ10 : u_T := fun k => match k with
  | _ => ("", "", "", false)
def tyJ10 : Nat → FieldType := fun k => match k with
  | _ => .int
abbrev wsJ100 : List Cond := u_ws RJ10 TJ10 0
theorem nmJ10 : ∀ a, a < 0 → ∀ b, b < 0 → a ≠ b → (TJ10 a).2.1 ≠ (TJ10 b).2.1 := by decide +kernel
theorem tyJ10_ok : ∀ k, k < 0 → parseFieldDescriptor (TJ10 k).2.2.1 = some (tyJ10 k) := by decide +kernel
def RJxfd54e : String := "java/lang/constant/Constable"
def TJxfd54e : u_T := fun k => match k with
  | _ => ("", "", "", false)
def tyJxfd54e : Nat → FieldType := fun k => match k with
  | _ => .int
abbrev wsJxfd54e0 : List Cond := u_ws RJxfd54e TJxfd54e 0
theorem nmJxfd54e : ∀ a, a < 0 → ∀ b, b < 0 → a ≠ b → (TJxfd54e a).2.1 ≠ (TJxfd54e b).2.1 := by decide +kernel
theorem tyJxfd54e_ok : ∀ k, k < 0 → parseFieldDescriptor (TJxfd54e k).2.2.1 = some (tyJxfd54e k) := by decide +kernel
def RJx3cf43 : String := "java/lang/constant/ConstantDesc"
def TJx3cf43 : u_T := fun k => match k with
  | _ => ("", "", "", false)
def tyJx3cf43 : Nat → FieldType := fun k => match k with
  | _ => .int
abbrev wsJx3cf430 : List Cond := u_ws RJx3cf43 TJx3cf43 0
theorem nmJx3cf43 : ∀ a, a < 0 → ∀ b, b < 0 → a ≠ b → (TJx3cf43 a).2.1 ≠ (TJx3cf43 b).2.1 := by decide +kernel
theorem tyJx3cf43_ok : ∀ k, k < 0 → parseFieldDescriptor (TJx3cf43 k).2.2.1 = some (tyJx3cf43 k) := by decide +kernel
def RJ3 : String := "jdk/internal/util/Preconditions"
def TJ3 : u_T := fun k => match k with
  | _ => ("", "", "", false)
def tyJ3 : Nat → FieldType := fun k => match k with
  | _ => .int
abbrev wsJ30 : List Cond := u_ws RJ3 TJ3 0
theorem nmJ3 : ∀ a, a < 0 → ∀ b, b < 0 → a ≠ b → (TJ3 a).2.1 ≠ (TJ3 b).2.1 := by decide +kernel
theorem tyJ3_ok : ∀ k, k < 0 → parseFieldDescriptor (TJ3 k).2.2.1 = some (tyJ3 k) := by decide +kernel
abbrev cJ3_checkIndex_8e157 : ByteArray := prog_29_method_11_code
def yJ3_checkIndex_8e157 : MethodName := ⟨RJ3, "checkIndex", "(IILjava/util/function/BiFunction;)I"⟩
def RL : String := "LanternStateLaw"
abbrev cL_slide : ByteArray := method_3_code
def yL_slide : MethodName := ⟨RL, "slide", "(LLanternState;II[J)I"⟩
abbrev cL_hearer : ByteArray := method_4_code
def yL_hearer : MethodName := ⟨RL, "hearer", "(LLanternState;II[J)I"⟩
abbrev cL_law : ByteArray := code
def yL_law : MethodName := ⟨RL, "law", "([I)Z"⟩
abbrev vwCl : List vw_C := [(RX0, TX0, 2), (RX1, TX1, 6), (RX2, TX2, 3), (RX3, TX3, 4), (RX5, TX5, 18), (RX6, TX6, 7), (RX7, TX7, 7), (RX8, TX8, 11), (RX9, TX9, 12), (RX10, TX10, 17), (RX11, TX11, 44)]
end
section
def gw : List Cond := lw_tbl.filter goodWord
theorem gw_mem {w : Cond} (i : Nat) (h : lw_tbl[i]? = some w) (hg : goodWord w = true) : w ∈ gw := List.mem_filter.mpr ⟨List.mem_of_getElem? h, hg⟩
theorem gw_sub : ∀ w ∈ gw, w ∈ lw_tbl := fun _ h => (List.mem_filter.mp h).1
theorem gw_ok {w : Cond} (h : w ∈ gw) : (w.onTables && w.keeps) = true ∨ ∃ ty, w = .arrayClass ty := good_of_word (List.mem_filter.mp h).2
theorem gw_in {w : Cond} (h : w ∈ gw) : GoodIn gw (w :: gw) := fun v hv => (List.mem_cons.mp hv).elim (fun e => by rw [e]; exact ⟨h, gw_ok h⟩) (fun h2 => ⟨h2, gw_ok h2⟩)
theorem gw_t1 {w : Cond} (i : Nat) (h : tables_1_1[i]? = some w) (hg : goodWord w = true) : w ∈ gw := List.mem_filter.mpr ⟨List.mem_append_right _ ((fun h => List.mem_append_left _ h) (List.mem_of_getElem? h)), hg⟩
theorem gw_t2 {w : Cond} (i : Nat) (h : tables_1_2[i]? = some w) (hg : goodWord w = true) : w ∈ gw := List.mem_filter.mpr ⟨List.mem_append_right _ ((fun h => List.mem_append_right _ (List.mem_append_left _ h)) (List.mem_of_getElem? h)), hg⟩
theorem gw_t3 {w : Cond} (i : Nat) (h : tables_1_3[i]? = some w) (hg : goodWord w = true) : w ∈ gw := List.mem_filter.mpr ⟨List.mem_append_right _ ((fun h => List.mem_append_right _ (List.mem_append_right _ (List.mem_append_left _ h))) (List.mem_of_getElem? h)), hg⟩
theorem gw_t4 {w : Cond} (i : Nat) (h : tables_1_4[i]? = some w) (hg : goodWord w = true) : w ∈ gw := List.mem_filter.mpr ⟨List.mem_append_right _ ((fun h => List.mem_append_right _ (List.mem_append_right _ (List.mem_append_right _ (List.mem_append_left _ h)))) (List.mem_of_getElem? h)), hg⟩
theorem gw_t5 {w : Cond} (i : Nat) (h : tables_1_5[i]? = some w) (hg : goodWord w = true) : w ∈ gw := List.mem_filter.mpr ⟨List.mem_append_right _ ((fun h => List.mem_append_right _ (List.mem_append_right _ (List.mem_append_right _ (List.mem_append_right _ (List.mem_append_left _ h))))) (List.mem_of_getElem? h)), hg⟩
theorem gw_t6 {w : Cond} (i : Nat) (h : tables_1_6[i]? = some w) (hg : goodWord w = true) : w ∈ gw := List.mem_filter.mpr ⟨List.mem_append_right _ ((fun h => List.mem_append_right _ (List.mem_append_right _ (List.mem_append_right _ (List.mem_append_right _ (List.mem_append_right _ (List.mem_append_left _ h)))))) (List.mem_of_getElem? h)), hg⟩
theorem gw_t7 {w : Cond} (i : Nat) (h : tables_1_7[i]? = some w) (hg : goodWord w = true) : w ∈ gw := List.mem_filter.mpr ⟨List.mem_append_right _ ((fun h => List.mem_append_right _ (List.mem_append_right _ (List.mem_append_right _ (List.mem_append_right _ (List.mem_append_right _ (List.mem_append_right _ (List.mem_append_left _ h))))))) (List.mem_of_getElem? h)), hg⟩
theorem gw_t8 {w : Cond} (i : Nat) (h : tables_1_8[i]? = some w) (hg : goodWord w = true) : w ∈ gw := List.mem_filter.mpr ⟨List.mem_append_right _ ((fun h => List.mem_append_right _ (List.mem_append_right _ (List.mem_append_right _ (List.mem_append_right _ (List.mem_append_right _ (List.mem_append_right _ (List.mem_append_right _ (h)))))))) (List.mem_of_getElem? h)), hg⟩
theorem kS0 : Cond.selects "LanternState$Scene" ⟨"LanternState$Scene", "clear", "()V"⟩ ⟨"LanternState$Scene", "clear", "()V"⟩ ∈ gw := gw_mem 0 (by decide +kernel) rfl
theorem kS1 : Cond.selects "LanternState$Tape" ⟨"LanternState$Tape", "at", "(I)I"⟩ ⟨"LanternState$Tape", "at", "(I)I"⟩ ∈ gw := gw_mem 1 (by decide +kernel) rfl
theorem kS2 : Cond.selects "LanternState$Tape" ⟨"LanternState$Tape", "readRun", "()V"⟩ ⟨"LanternState$Tape", "readRun", "()V"⟩ ∈ gw := gw_mem 2 (by decide +kernel) rfl
theorem kS3 : Cond.selects "LanternState$Scene" ⟨"LanternState$Scene", "readLine", "(LLanternState$Tape;)Z"⟩ ⟨"LanternState$Scene", "readLine", "(LLanternState$Tape;)Z"⟩ ∈ gw := gw_mem 3 (by decide +kernel) rfl
theorem kS4 : Cond.selects "LanternState$Scene" ⟨"LanternState$Scene", "readSlide", "(LLanternState$Tape;)Z"⟩ ⟨"LanternState$Scene", "readSlide", "(LLanternState$Tape;)Z"⟩ ∈ gw := gw_mem 4 (by decide +kernel) rfl
theorem kS5 : Cond.selects "LanternState$Scene" ⟨"LanternState$Scene", "isTold", "(J)Z"⟩ ⟨"LanternState$Scene", "isTold", "(J)Z"⟩ ∈ gw := gw_mem 5 (by decide +kernel) rfl
theorem kS6 : Cond.selects "LanternState$Scene" ⟨"LanternState$Scene", "readHearer", "(LLanternState$Tape;)Z"⟩ ⟨"LanternState$Scene", "readHearer", "(LLanternState$Tape;)Z"⟩ ∈ gw := gw_mem 6 (by decide +kernel) rfl
theorem kS7 : Cond.selects "LanternState$Scene" ⟨"LanternState$Scene", "readCell", "(LLanternState$Tape;[I)Z"⟩ ⟨"LanternState$Scene", "readCell", "(LLanternState$Tape;[I)Z"⟩ ∈ gw := gw_mem 7 (by decide +kernel) rfl
theorem kS8 : Cond.selects "LanternState$Scene" ⟨"LanternState$Scene", "takeHearer", "(LLanternState$Tape;)I"⟩ ⟨"LanternState$Scene", "takeHearer", "(LLanternState$Tape;)I"⟩ ∈ gw := gw_mem 8 (by decide +kernel) rfl
theorem kS9 : Cond.selects "LanternState$Scene" ⟨"LanternState$Scene", "readNear", "(LLanternState$Tape;)Z"⟩ ⟨"LanternState$Scene", "readNear", "(LLanternState$Tape;)Z"⟩ ∈ gw := gw_mem 9 (by decide +kernel) rfl
theorem kS10 : Cond.selects "LanternState$Scene" ⟨"LanternState$Scene", "readAfter", "(LLanternState$Tape;)Z"⟩ ⟨"LanternState$Scene", "readAfter", "(LLanternState$Tape;)Z"⟩ ∈ gw := gw_mem 10 (by decide +kernel) rfl
theorem kS11 : Cond.selects "LanternState$Scene" ⟨"LanternState$Scene", "readSetting", "(LLanternState$Tape;III)Z"⟩ ⟨"LanternState$Scene", "readSetting", "(LLanternState$Tape;III)Z"⟩ ∈ gw := gw_mem 11 (by decide +kernel) rfl
theorem kS12 : Cond.selects "LanternState" ⟨"LanternState", "closeText", "()V"⟩ ⟨"LanternState", "closeText", "()V"⟩ ∈ gw := gw_mem 12 (by decide +kernel) rfl
theorem kS13 : Cond.selects "LanternState" ⟨"LanternState", "isSlide", "(I)Z"⟩ ⟨"LanternState", "isSlide", "(I)Z"⟩ ∈ gw := gw_mem 13 (by decide +kernel) rfl
theorem kS14 : Cond.selects "LanternState" ⟨"LanternState", "isHearer", "(I)Z"⟩ ⟨"LanternState", "isHearer", "(I)Z"⟩ ∈ gw := gw_mem 14 (by decide +kernel) rfl
theorem kS15 : Cond.selects "LanternState$State" ⟨"LanternState$State", "whyNotShow", "(LLanternState$Scene;I)I"⟩ ⟨"LanternState$State", "whyNotShow", "(LLanternState$Scene;I)I"⟩ ∈ gw := gw_mem 15 (by decide +kernel) rfl
theorem kS16 : Cond.selects "LanternState$State" ⟨"LanternState$State", "project", "(LLanternState$Scene;II)I"⟩ ⟨"LanternState$State", "project", "(LLanternState$Scene;II)I"⟩ ∈ gw := gw_mem 16 (by decide +kernel) rfl
theorem kS17 : Cond.selects "LanternState" ⟨"LanternState", "keptShowing", "(I)I"⟩ ⟨"LanternState", "keptShowing", "(I)I"⟩ ∈ gw := gw_mem 17 (by decide +kernel) rfl
theorem kS18 : Cond.selects "LanternState$State" ⟨"LanternState$State", "letHourGo", "()V"⟩ ⟨"LanternState$State", "letHourGo", "()V"⟩ ∈ gw := gw_mem 18 (by decide +kernel) rfl
theorem kS19 : Cond.selects "LanternState" ⟨"LanternState", "sighers", "(II)I"⟩ ⟨"LanternState", "sighers", "(II)I"⟩ ∈ gw := gw_mem 19 (by decide +kernel) rfl
theorem kS20 : Cond.selects "LanternState$Search" ⟨"LanternState$Search", "keepIfBetter", "(II)V"⟩ ⟨"LanternState$Search", "keepIfBetter", "(II)V"⟩ ∈ gw := gw_mem 20 (by decide +kernel) rfl
theorem kS21 : Cond.selects "LanternState$Search" ⟨"LanternState$Search", "goOn", "(LLanternState$Scene;IIIII)V"⟩ ⟨"LanternState$Search", "goOn", "(LLanternState$Scene;IIIII)V"⟩ ∈ gw := gw_mem 21 (by decide +kernel) rfl
theorem kS22 : Cond.selects "LanternState$Search" ⟨"LanternState$Search", "leastCells", "(LLanternState$Scene;III)I"⟩ ⟨"LanternState$Search", "leastCells", "(LLanternState$Scene;III)I"⟩ ∈ gw := gw_mem 22 (by decide +kernel) rfl
theorem kS23 : Cond.selects "LanternState$Bill" ⟨"LanternState$Bill", "putName", "(J)V"⟩ ⟨"LanternState$Bill", "putName", "(J)V"⟩ ∈ gw := gw_mem 23 (by decide +kernel) rfl
theorem kS24 : Cond.selects "LanternState$Bill" ⟨"LanternState$Bill", "putLetter", "(C)V"⟩ ⟨"LanternState$Bill", "putLetter", "(C)V"⟩ ∈ gw := gw_mem 24 (by decide +kernel) rfl
theorem kS25 : Cond.selects "LanternState$Bill" ⟨"LanternState$Bill", "put", "(Ljava/lang/String;)V"⟩ ⟨"LanternState$Bill", "put", "(Ljava/lang/String;)V"⟩ ∈ gw := gw_mem 25 (by decide +kernel) rfl
theorem kS26 : Cond.selects "LanternState$State" ⟨"LanternState$State", "drawOf", "(I)I"⟩ ⟨"LanternState$State", "drawOf", "(I)I"⟩ ∈ gw := gw_mem 26 (by decide +kernel) rfl
theorem kS27 : Cond.selects "LanternState$Book" ⟨"LanternState$Book", "readLine", "(LLanternState$Tape;LLanternState$Scene;)Z"⟩ ⟨"LanternState$Book", "readLine", "(LLanternState$Tape;LLanternState$Scene;)Z"⟩ ∈ gw := gw_mem 27 (by decide +kernel) rfl
theorem kS28 : Cond.selects "LanternState$Book" ⟨"LanternState$Book", "keepLine", "(IIII)Z"⟩ ⟨"LanternState$Book", "keepLine", "(IIII)Z"⟩ ∈ gw := gw_mem 28 (by decide +kernel) rfl
theorem kS29 : Cond.selects "LanternState$Book" ⟨"LanternState$Book", "readSlideAct", "(LLanternState$Tape;LLanternState$Scene;I)Z"⟩ ⟨"LanternState$Book", "readSlideAct", "(LLanternState$Tape;LLanternState$Scene;I)Z"⟩ ∈ gw := gw_mem 29 (by decide +kernel) rfl
theorem kS30 : Cond.selects "LanternState$Book" ⟨"LanternState$Book", "readSeatAct", "(LLanternState$Tape;I)Z"⟩ ⟨"LanternState$Book", "readSeatAct", "(LLanternState$Tape;I)Z"⟩ ∈ gw := gw_mem 30 (by decide +kernel) rfl
theorem kS31 : Cond.selects "LanternState$Book" ⟨"LanternState$Book", "liveLine", "(LLanternState$Scene;LLanternState$State;I)I"⟩ ⟨"LanternState$Book", "liveLine", "(LLanternState$Scene;LLanternState$State;I)I"⟩ ∈ gw := gw_mem 31 (by decide +kernel) rfl
theorem kS32 : Cond.selects "LanternState$Sentence" ⟨"LanternState$Sentence", "readCond", "(LLanternState$Tape;LLanternState$Scene;I)Z"⟩ ⟨"LanternState$Sentence", "readCond", "(LLanternState$Tape;LLanternState$Scene;I)Z"⟩ ∈ gw := gw_mem 32 (by decide +kernel) rfl
theorem kS33 : Cond.selects "LanternState$Sentence" ⟨"LanternState$Sentence", "readAll", "(LLanternState$Tape;LLanternState$Scene;I)Z"⟩ ⟨"LanternState$Sentence", "readAll", "(LLanternState$Tape;LLanternState$Scene;I)Z"⟩ ∈ gw := gw_mem 33 (by decide +kernel) rfl
theorem kS34 : Cond.selects "LanternState$Sentence" ⟨"LanternState$Sentence", "readOne", "(LLanternState$Tape;LLanternState$Scene;I)Z"⟩ ⟨"LanternState$Sentence", "readOne", "(LLanternState$Tape;LLanternState$Scene;I)Z"⟩ ∈ gw := gw_mem 34 (by decide +kernel) rfl
theorem kS35 : Cond.selects "LanternState$Sentence" ⟨"LanternState$Sentence", "readBracket", "(LLanternState$Tape;LLanternState$Scene;I)Z"⟩ ⟨"LanternState$Sentence", "readBracket", "(LLanternState$Tape;LLanternState$Scene;I)Z"⟩ ∈ gw := gw_mem 35 (by decide +kernel) rfl
theorem kS36 : Cond.selects "LanternState$Sentence" ⟨"LanternState$Sentence", "keepPart", "(III)Z"⟩ ⟨"LanternState$Sentence", "keepPart", "(III)Z"⟩ ∈ gw := gw_mem 36 (by decide +kernel) rfl
theorem kS37 : Cond.selects "LanternState$Sentence" ⟨"LanternState$Sentence", "keepLeaf", "(LLanternState$Tape;III)Z"⟩ ⟨"LanternState$Sentence", "keepLeaf", "(LLanternState$Tape;III)Z"⟩ ∈ gw := gw_mem 37 (by decide +kernel) rfl
theorem kS38 : Cond.selects "LanternState$Sentence" ⟨"LanternState$Sentence", "readMeasure", "(LLanternState$Tape;)Z"⟩ ⟨"LanternState$Sentence", "readMeasure", "(LLanternState$Tape;)Z"⟩ ∈ gw := gw_mem 38 (by decide +kernel) rfl
theorem kS39 : Cond.selects "LanternState$Sentence" ⟨"LanternState$Sentence", "leafSlides", "(LLanternState$Scene;LLanternState$State;I)I"⟩ ⟨"LanternState$Sentence", "leafSlides", "(LLanternState$Scene;LLanternState$State;I)I"⟩ ∈ gw := gw_mem 39 (by decide +kernel) rfl
theorem kS40 : Cond.selects "LanternState$Sentence" ⟨"LanternState$Sentence", "isLeafTrue", "(LLanternState$Scene;LLanternState$State;II)Z"⟩ ⟨"LanternState$Sentence", "isLeafTrue", "(LLanternState$Scene;LLanternState$State;II)Z"⟩ ∈ gw := gw_mem 40 (by decide +kernel) rfl
theorem kS41 : Cond.selects "LanternState$Sentence" ⟨"LanternState$Sentence", "compares", "(II)Z"⟩ ⟨"LanternState$Sentence", "compares", "(II)Z"⟩ ∈ gw := gw_mem 41 (by decide +kernel) rfl
theorem kS42 : Cond.selects "java/lang/Throwable" ⟨"java/lang/Throwable", "fillInStackTrace", "(I)Ljava/lang/Throwable;"⟩ ⟨"java/lang/Throwable", "fillInStackTrace", "(I)Ljava/lang/Throwable;"⟩ ∈ gw := gw_mem 42 (by decide +kernel) rfl
theorem kS43 : Cond.selects "LanternStateModel" ⟨"LanternStateModel", "come", "(I)V"⟩ ⟨"LanternStateModel", "come", "(I)V"⟩ ∈ gw := gw_mem 43 (by decide +kernel) rfl
theorem kS44 : Cond.selects "LanternStateModel" ⟨"LanternStateModel", "startRead", "()V"⟩ ⟨"LanternStateModel", "startRead", "()V"⟩ ∈ gw := gw_mem 44 (by decide +kernel) rfl
theorem kS45 : Cond.selects "LanternStateModel" ⟨"LanternStateModel", "begin", "(I)V"⟩ ⟨"LanternStateModel", "begin", "(I)V"⟩ ∈ gw := gw_mem 45 (by decide +kernel) rfl
theorem kS46 : Cond.selects "LanternStateModel" ⟨"LanternStateModel", "take", "()I"⟩ ⟨"LanternStateModel", "take", "()I"⟩ ∈ gw := gw_mem 46 (by decide +kernel) rfl
theorem kS47 : Cond.selects "LanternStateModel" ⟨"LanternStateModel", "go", "()V"⟩ ⟨"LanternStateModel", "go", "()V"⟩ ∈ gw := gw_mem 47 (by decide +kernel) rfl
theorem kS48 : Cond.selects "LanternStateModel" ⟨"LanternStateModel", "tapeAt", "(I)I"⟩ ⟨"LanternStateModel", "tapeAt", "(I)I"⟩ ∈ gw := gw_mem 48 (by decide +kernel) rfl
theorem kS49 : Cond.selects "LanternStateModel" ⟨"LanternStateModel", "readLine", "()Z"⟩ ⟨"LanternStateModel", "readLine", "()Z"⟩ ∈ gw := gw_mem 49 (by decide +kernel) rfl
theorem kS50 : Cond.selects "LanternStateModel" ⟨"LanternStateModel", "isWord", "(I)Z"⟩ ⟨"LanternStateModel", "isWord", "(I)Z"⟩ ∈ gw := gw_mem 50 (by decide +kernel) rfl
theorem kS51 : Cond.selects "LanternStateModel" ⟨"LanternStateModel", "readSlide", "()Z"⟩ ⟨"LanternStateModel", "readSlide", "()Z"⟩ ∈ gw := gw_mem 51 (by decide +kernel) rfl
theorem kS52 : Cond.selects "LanternStateModel" ⟨"LanternStateModel", "readFirst", "(II)Z"⟩ ⟨"LanternStateModel", "readFirst", "(II)Z"⟩ ∈ gw := gw_mem 52 (by decide +kernel) rfl
theorem kS53 : Cond.selects "LanternStateModel" ⟨"LanternStateModel", "bad", "(I)Z"⟩ ⟨"LanternStateModel", "bad", "(I)Z"⟩ ∈ gw := gw_mem 53 (by decide +kernel) rfl
theorem kS54 : Cond.selects "LanternStateModel" ⟨"LanternStateModel", "readNew", "(I)Z"⟩ ⟨"LanternStateModel", "readNew", "(I)Z"⟩ ∈ gw := gw_mem 54 (by decide +kernel) rfl
theorem kS55 : Cond.selects "LanternStateModel" ⟨"LanternStateModel", "isName", "()Z"⟩ ⟨"LanternStateModel", "isName", "()Z"⟩ ∈ gw := gw_mem 55 (by decide +kernel) rfl
theorem kS56 : Cond.selects "LanternStateModel" ⟨"LanternStateModel", "readNumber", "(II)Z"⟩ ⟨"LanternStateModel", "readNumber", "(II)Z"⟩ ∈ gw := gw_mem 56 (by decide +kernel) rfl
theorem kS57 : Cond.selects "LanternStateModel" ⟨"LanternStateModel", "put", "(IZ)Z"⟩ ⟨"LanternStateModel", "put", "(IZ)Z"⟩ ∈ gw := gw_mem 57 (by decide +kernel) rfl
theorem kS58 : Cond.selects "LanternStateModel" ⟨"LanternStateModel", "readHearer", "()Z"⟩ ⟨"LanternStateModel", "readHearer", "()Z"⟩ ∈ gw := gw_mem 58 (by decide +kernel) rfl
theorem kS59 : Cond.selects "LanternStateModel" ⟨"LanternStateModel", "isSeat", "()Z"⟩ ⟨"LanternStateModel", "isSeat", "()Z"⟩ ∈ gw := gw_mem 59 (by decide +kernel) rfl
theorem kS60 : Cond.selects "LanternStateModel" ⟨"LanternStateModel", "readThinks", "(I)Z"⟩ ⟨"LanternStateModel", "readThinks", "(I)Z"⟩ ∈ gw := gw_mem 60 (by decide +kernel) rfl
theorem kS61 : Cond.selects "LanternStateModel" ⟨"LanternStateModel", "isHearerHere", "()Z"⟩ ⟨"LanternStateModel", "isHearerHere", "()Z"⟩ ∈ gw := gw_mem 61 (by decide +kernel) rfl
theorem kS62 : Cond.selects "LanternStateModel" ⟨"LanternStateModel", "isOne", "(II)Z"⟩ ⟨"LanternStateModel", "isOne", "(II)Z"⟩ ∈ gw := gw_mem 62 (by decide +kernel) rfl
theorem kS63 : Cond.selects "LanternStateModel" ⟨"LanternStateModel", "readNear", "()Z"⟩ ⟨"LanternStateModel", "readNear", "()Z"⟩ ∈ gw := gw_mem 63 (by decide +kernel) rfl
theorem kS64 : Cond.selects "LanternStateModel" ⟨"LanternStateModel", "readAfter", "()Z"⟩ ⟨"LanternStateModel", "readAfter", "()Z"⟩ ∈ gw := gw_mem 64 (by decide +kernel) rfl
theorem kS65 : Cond.selects "LanternStateModel" ⟨"LanternStateModel", "isSlideHere", "()Z"⟩ ⟨"LanternStateModel", "isSlideHere", "()Z"⟩ ∈ gw := gw_mem 65 (by decide +kernel) rfl
theorem kS66 : Cond.selects "LanternStateModel" ⟨"LanternStateModel", "isFresh", "(I)Z"⟩ ⟨"LanternStateModel", "isFresh", "(I)Z"⟩ ∈ gw := gw_mem 66 (by decide +kernel) rfl
theorem kS67 : Cond.selects "LanternStateModel" ⟨"LanternStateModel", "readEnd", "()Z"⟩ ⟨"LanternStateModel", "readEnd", "()Z"⟩ ∈ gw := gw_mem 67 (by decide +kernel) rfl
theorem kS68 : Cond.selects "LanternStateModel" ⟨"LanternStateModel", "isSign", "(I)Z"⟩ ⟨"LanternStateModel", "isSign", "(I)Z"⟩ ∈ gw := gw_mem 68 (by decide +kernel) rfl
theorem kS69 : Cond.selects "LanternStateModel" ⟨"LanternStateModel", "startSo", "()V"⟩ ⟨"LanternStateModel", "startSo", "()V"⟩ ∈ gw := gw_mem 69 (by decide +kernel) rfl
theorem kS70 : Cond.selects "LanternStateModel" ⟨"LanternStateModel", "isSlide", "(I)Z"⟩ ⟨"LanternStateModel", "isSlide", "(I)Z"⟩ ∈ gw := gw_mem 70 (by decide +kernel) rfl
theorem kS71 : Cond.selects "LanternStateModel" ⟨"LanternStateModel", "refuse", "()I"⟩ ⟨"LanternStateModel", "refuse", "()I"⟩ ∈ gw := gw_mem 71 (by decide +kernel) rfl
theorem kS72 : Cond.selects "LanternStateModel" ⟨"LanternStateModel", "isSo", "(I)Z"⟩ ⟨"LanternStateModel", "isSo", "(I)Z"⟩ ∈ gw := gw_mem 72 (by decide +kernel) rfl
theorem kS73 : Cond.selects "LanternStateModel" ⟨"LanternStateModel", "isCracked", "(I)Z"⟩ ⟨"LanternStateModel", "isCracked", "(I)Z"⟩ ∈ gw := gw_mem 73 (by decide +kernel) rfl
theorem kS74 : Cond.selects "LanternStateModel" ⟨"LanternStateModel", "isHearer", "(I)Z"⟩ ⟨"LanternStateModel", "isHearer", "(I)Z"⟩ ∈ gw := gw_mem 74 (by decide +kernel) rfl
theorem kS75 : Cond.selects "LanternStateModel" ⟨"LanternStateModel", "seats", "()I"⟩ ⟨"LanternStateModel", "seats", "()I"⟩ ∈ gw := gw_mem 75 (by decide +kernel) rfl
theorem kS76 : Cond.selects "LanternStateModel" ⟨"LanternStateModel", "allSighs", "()I"⟩ ⟨"LanternStateModel", "allSighs", "()I"⟩ ∈ gw := gw_mem 76 (by decide +kernel) rfl
theorem kS77 : Cond.selects "LanternStateModel" ⟨"LanternStateModel", "sighsFor", "(II)I"⟩ ⟨"LanternStateModel", "sighsFor", "(II)I"⟩ ∈ gw := gw_mem 77 (by decide +kernel) rfl
theorem kS78 : Cond.selects "LanternStateModel" ⟨"LanternStateModel", "sighsBy", "(II)I"⟩ ⟨"LanternStateModel", "sighsBy", "(II)I"⟩ ∈ gw := gw_mem 78 (by decide +kernel) rfl
theorem kS79 : Cond.selects "LanternStateModel" ⟨"LanternStateModel", "sighsAlone", "(II)Z"⟩ ⟨"LanternStateModel", "sighsAlone", "(II)Z"⟩ ∈ gw := gw_mem 79 (by decide +kernel) rfl
theorem kS80 : Cond.selects "LanternStateModel" ⟨"LanternStateModel", "spreadFrom", "(I)I"⟩ ⟨"LanternStateModel", "spreadFrom", "(I)I"⟩ ∈ gw := gw_mem 80 (by decide +kernel) rfl
theorem kS81 : Cond.selects "LanternStateModel" ⟨"LanternStateModel", "why", "(III)I"⟩ ⟨"LanternStateModel", "why", "(III)I"⟩ ∈ gw := gw_mem 81 (by decide +kernel) rfl
theorem kS82 : Cond.selects "LanternStateModel" ⟨"LanternStateModel", "waits", "(I)Z"⟩ ⟨"LanternStateModel", "waits", "(I)Z"⟩ ∈ gw := gw_mem 82 (by decide +kernel) rfl
theorem kS83 : Cond.selects "LanternStateModel" ⟨"LanternStateModel", "snap", "()V"⟩ ⟨"LanternStateModel", "snap", "()V"⟩ ∈ gw := gw_mem 83 (by decide +kernel) rfl
theorem kS84 : Cond.selects "LanternStateModel" ⟨"LanternStateModel", "live", "(III)I"⟩ ⟨"LanternStateModel", "live", "(III)I"⟩ ∈ gw := gw_mem 84 (by decide +kernel) rfl
theorem kS85 : Cond.selects "LanternStateModel" ⟨"LanternStateModel", "light", "(II)I"⟩ ⟨"LanternStateModel", "light", "(II)I"⟩ ∈ gw := gw_mem 85 (by decide +kernel) rfl
theorem kS86 : Cond.selects "LanternStateModel" ⟨"LanternStateModel", "act", "(III)I"⟩ ⟨"LanternStateModel", "act", "(III)I"⟩ ∈ gw := gw_mem 86 (by decide +kernel) rfl
theorem kS87 : Cond.selects "LanternStateModel" ⟨"LanternStateModel", "passHours", "(I)I"⟩ ⟨"LanternStateModel", "passHours", "(I)I"⟩ ∈ gw := gw_mem 87 (by decide +kernel) rfl
theorem kS88 : Cond.selects "LanternStateModel" ⟨"LanternStateModel", "oneHour", "()V"⟩ ⟨"LanternStateModel", "oneHour", "()V"⟩ ∈ gw := gw_mem 88 (by decide +kernel) rfl
theorem kS89 : Cond.selects "LanternStateModel" ⟨"LanternStateModel", "endOrder", "(II)V"⟩ ⟨"LanternStateModel", "endOrder", "(II)V"⟩ ∈ gw := gw_mem 89 (by decide +kernel) rfl
theorem kS90 : Cond.selects "LanternStateModel" ⟨"LanternStateModel", "orderFrom", "(IIIII)V"⟩ ⟨"LanternStateModel", "orderFrom", "(IIIII)V"⟩ ∈ gw := gw_mem 90 (by decide +kernel) rfl
theorem kS91 : Cond.selects "LanternStateModel" ⟨"LanternStateModel", "unevenBy", "(I)I"⟩ ⟨"LanternStateModel", "unevenBy", "(I)I"⟩ ∈ gw := gw_mem 91 (by decide +kernel) rfl
theorem kS92 : Cond.selects "LanternStateModel" ⟨"LanternStateModel", "writeWord", "(J)V"⟩ ⟨"LanternStateModel", "writeWord", "(J)V"⟩ ∈ gw := gw_mem 92 (by decide +kernel) rfl
theorem kS93 : Cond.selects "LanternStateModel" ⟨"LanternStateModel", "write", "(I)V"⟩ ⟨"LanternStateModel", "write", "(I)V"⟩ ∈ gw := gw_mem 93 (by decide +kernel) rfl
theorem kS94 : Cond.selects "LanternStateModel" ⟨"LanternStateModel", "writeNext", "(J)V"⟩ ⟨"LanternStateModel", "writeNext", "(J)V"⟩ ∈ gw := gw_mem 94 (by decide +kernel) rfl
theorem kS95 : Cond.selects "LanternStateModel" ⟨"LanternStateModel", "drawHours", "(II)I"⟩ ⟨"LanternStateModel", "drawHours", "(II)I"⟩ ∈ gw := gw_mem 95 (by decide +kernel) rfl
theorem kS96 : Cond.selects "LanternStateModel" ⟨"LanternStateModel", "draw", "(I)I"⟩ ⟨"LanternStateModel", "draw", "(I)I"⟩ ∈ gw := gw_mem 96 (by decide +kernel) rfl
theorem kS97 : Cond.selects "LanternStateModel" ⟨"LanternStateModel", "layAside", "()V"⟩ ⟨"LanternStateModel", "layAside", "()V"⟩ ∈ gw := gw_mem 97 (by decide +kernel) rfl
theorem kS98 : Cond.selects "LanternStateModel" ⟨"LanternStateModel", "takeBack", "()V"⟩ ⟨"LanternStateModel", "takeBack", "()V"⟩ ∈ gw := gw_mem 98 (by decide +kernel) rfl
theorem kS99 : Cond.selects "LanternStateModel" ⟨"LanternStateModel", "readBookLine", "()Z"⟩ ⟨"LanternStateModel", "readBookLine", "()Z"⟩ ∈ gw := gw_mem 99 (by decide +kernel) rfl
theorem kS100 : Cond.selects "LanternStateModel" ⟨"LanternStateModel", "keep", "(IZ)Z"⟩ ⟨"LanternStateModel", "keep", "(IZ)Z"⟩ ∈ gw := gw_mem 100 (by decide +kernel) rfl
theorem kS101 : Cond.selects "LanternStateModel" ⟨"LanternStateModel", "readHearerDoes", "(I)Z"⟩ ⟨"LanternStateModel", "readHearerDoes", "(I)Z"⟩ ∈ gw := gw_mem 101 (by decide +kernel) rfl
theorem kS102 : Cond.selects "LanternStateModel" ⟨"LanternStateModel", "readSlideDoes", "(I)Z"⟩ ⟨"LanternStateModel", "readSlideDoes", "(I)Z"⟩ ∈ gw := gw_mem 102 (by decide +kernel) rfl
theorem kS103 : Cond.selects "LanternStateModel" ⟨"LanternStateModel", "readOtherSlide", "()Z"⟩ ⟨"LanternStateModel", "readOtherSlide", "()Z"⟩ ∈ gw := gw_mem 103 (by decide +kernel) rfl
theorem kS104 : Cond.selects "LanternStateModel" ⟨"LanternStateModel", "readCell", "(I)Z"⟩ ⟨"LanternStateModel", "readCell", "(I)Z"⟩ ∈ gw := gw_mem 104 (by decide +kernel) rfl
theorem kS105 : Cond.selects "LanternStateModel" ⟨"LanternStateModel", "goBy", "(I)I"⟩ ⟨"LanternStateModel", "goBy", "(I)I"⟩ ∈ gw := gw_mem 105 (by decide +kernel) rfl
theorem kS106 : Cond.selects "LanternStateModel" ⟨"LanternStateModel", "stay", "(Z)V"⟩ ⟨"LanternStateModel", "stay", "(Z)V"⟩ ∈ gw := gw_mem 106 (by decide +kernel) rfl
theorem kS107 : Cond.selects "LanternStateModel" ⟨"LanternStateModel", "readOr", "()Z"⟩ ⟨"LanternStateModel", "readOr", "()Z"⟩ ∈ gw := gw_mem 107 (by decide +kernel) rfl
theorem kS108 : Cond.selects "LanternStateModel" ⟨"LanternStateModel", "readAnd", "()Z"⟩ ⟨"LanternStateModel", "readAnd", "()Z"⟩ ∈ gw := gw_mem 108 (by decide +kernel) rfl
theorem kS109 : Cond.selects "LanternStateModel" ⟨"LanternStateModel", "readSaid", "()Z"⟩ ⟨"LanternStateModel", "readSaid", "()Z"⟩ ∈ gw := gw_mem 109 (by decide +kernel) rfl
theorem kS110 : Cond.selects "LanternStateModel" ⟨"LanternStateModel", "readBracket", "()Z"⟩ ⟨"LanternStateModel", "readBracket", "()Z"⟩ ∈ gw := gw_mem 110 (by decide +kernel) rfl
theorem kS111 : Cond.selects "LanternStateModel" ⟨"LanternStateModel", "readNot", "()Z"⟩ ⟨"LanternStateModel", "readNot", "()Z"⟩ ∈ gw := gw_mem 111 (by decide +kernel) rfl
theorem kS112 : Cond.selects "LanternStateModel" ⟨"LanternStateModel", "saysOne", "(IIII)I"⟩ ⟨"LanternStateModel", "saysOne", "(IIII)I"⟩ ∈ gw := gw_mem 112 (by decide +kernel) rfl
theorem kS113 : Cond.selects "LanternStateModel" ⟨"LanternStateModel", "readOf", "(I)Z"⟩ ⟨"LanternStateModel", "readOf", "(I)Z"⟩ ∈ gw := gw_mem 113 (by decide +kernel) rfl
theorem kS114 : Cond.selects "LanternStateModel" ⟨"LanternStateModel", "readCompare", "(I)Z"⟩ ⟨"LanternStateModel", "readCompare", "(I)Z"⟩ ∈ gw := gw_mem 114 (by decide +kernel) rfl
theorem kS115 : Cond.selects "LanternStateModel" ⟨"LanternStateModel", "holds", "(II)Z"⟩ ⟨"LanternStateModel", "holds", "(II)Z"⟩ ∈ gw := gw_mem 115 (by decide +kernel) rfl
theorem kw0 : Cond.initialized "LanternStateLaw" ∈ gw := gw_t1 0 rfl rfl
theorem kw1 : Cond.initialized "LanternState" ∈ gw := gw_t1 1 rfl rfl
theorem kw2 : Cond.initialized "LanternState$Tape" ∈ gw := gw_t1 2 rfl rfl
theorem kw3 : Cond.initialized "java/lang/String" ∈ gw := gw_t1 3 rfl rfl
theorem kw4 : Cond.initialized "java/lang/StringLatin1" ∈ gw := gw_t1 4 rfl rfl
theorem kw5 : Cond.initialized "jdk/internal/util/Preconditions" ∈ gw := gw_t1 5 rfl rfl
theorem kw6 : Cond.initialized "java/lang/StringUTF16" ∈ gw := gw_t1 6 rfl rfl
theorem kw7 : Cond.initialized "LanternState$Scene" ∈ gw := gw_t1 7 rfl rfl
theorem kw8 : Cond.initialized "LanternState$State" ∈ gw := gw_t1 8 rfl rfl
theorem kw9 : Cond.initialized "LanternState$History" ∈ gw := gw_t1 9 rfl rfl
theorem kw10 : Cond.initialized "LanternState$Sentence" ∈ gw := gw_t1 10 rfl rfl
theorem kw11 : Cond.initialized "LanternState$Book" ∈ gw := gw_t1 11 rfl rfl
theorem kw12 : Cond.initialized "LanternState$Search" ∈ gw := gw_t1 12 rfl rfl
theorem kw13 : Cond.initialized "LanternState$Bill" ∈ gw := gw_t1 13 rfl rfl
theorem kw14 : Cond.initialized "LanternState$Image" ∈ gw := gw_t1 14 rfl rfl
theorem kw15 : Cond.initialized "LanternStateModel" ∈ gw := gw_t1 15 rfl rfl
theorem kw16 : Cond.initialized "LanternState$Picture" ∈ gw := gw_t1 16 rfl rfl
theorem kw17 : Cond.initialized "java/lang/System" ∈ gw := gw_t1 17 rfl rfl
theorem kw18 : Cond.initialized "java/lang/Throwable" ∈ gw := gw_t1 18 rfl rfl
theorem kw19 : Cond.initialized "java/lang/Exception" ∈ gw := gw_t1 19 rfl rfl
theorem kw20 : Cond.initialized "java/lang/RuntimeException" ∈ gw := gw_t1 20 rfl rfl
theorem kw21 : Cond.initialized "java/util/NoSuchElementException" ∈ gw := gw_t1 21 rfl rfl
theorem kw22 : Cond.initialized "java/lang/Integer" ∈ gw := gw_t1 22 rfl rfl
theorem kw23 : Cond.initialized "java/lang/Math" ∈ gw := gw_t1 23 rfl rfl
theorem kw24 : Cond.classLink "LanternStateLaw" 8 "LanternState" ∈ gw := gw_t1 24 rfl rfl
theorem kw25 : Cond.instantiable "LanternState" 17 ∈ gw := gw_t1 25 rfl rfl
theorem kw26 : Cond.methodLink "LanternStateLaw" 18 ⟨"LanternState", "<init>", "()V"⟩ ∈ gw := gw_t1 26 rfl rfl
theorem kw27 : Cond.instanceMethod ⟨"LanternState", "<init>", "()V"⟩ ∈ gw := gw_t1 27 rfl rfl
theorem kw28 : Cond.code ⟨"LanternState", "<init>", "()V"⟩ prog_1_method_1_code 2 none ∈ gw := gw_t1 28 rfl rfl
theorem kw29 : Cond.methodLink "LanternState" 1 ⟨"java/lang/Object", "<init>", "()V"⟩ ∈ gw := gw_t1 29 rfl rfl
theorem kw30 : Cond.instanceMethod ⟨"java/lang/Object", "<init>", "()V"⟩ ∈ gw := gw_t1 30 rfl rfl
theorem kw31 : Cond.code ⟨"java/lang/Object", "<init>", "()V"⟩ object_method_1_code 1 none ∈ gw := gw_t1 31 rfl rfl
theorem kw32 : Cond.classLink "LanternState" 7 "LanternState$Tape" ∈ gw := gw_t1 32 rfl rfl
theorem kw33 : Cond.instantiable "LanternState$Tape" 12 ∈ gw := gw_t1 33 rfl rfl
theorem kw34 : Cond.methodLink "LanternState" 9 ⟨"LanternState$Tape", "<init>", "()V"⟩ ∈ gw := gw_t1 34 rfl rfl
theorem kw35 : Cond.instanceMethod ⟨"LanternState$Tape", "<init>", "()V"⟩ ∈ gw := gw_t1 35 rfl rfl
theorem kw36 : Cond.code ⟨"LanternState$Tape", "<init>", "()V"⟩ prog_11_method_1_code 6 none ∈ gw := gw_t1 36 rfl rfl
theorem kw37 : Cond.methodLink "LanternState$Tape" 3 ⟨"java/lang/Object", "<init>", "()V"⟩ ∈ gw := gw_t1 37 rfl rfl
theorem kw39 : Cond.methodLink "LanternState$Tape" 21 ⟨"java/lang/String", "length", "()I"⟩ ∈ gw := gw_t1 39 rfl rfl
theorem kw40 : Cond.instanceMethod ⟨"java/lang/String", "length", "()I"⟩ ∈ gw := gw_t1 40 rfl rfl
theorem kw41 : Cond.selects "java/lang/String" ⟨"java/lang/String", "length", "()I"⟩ ⟨"java/lang/String", "length", "()I"⟩ ∈ gw := gw_t1 41 rfl rfl
theorem kw42 : Cond.code ⟨"java/lang/String", "length", "()I"⟩ prog_21_method_54_code 1 (some FieldType.int) ∈ gw := gw_t1 42 rfl rfl
theorem kw43 : Cond.methodLink "java/lang/String" 335 ⟨"java/lang/String", "coder", "()B"⟩ ∈ gw := gw_t1 43 rfl rfl
theorem kw44 : Cond.instanceMethod ⟨"java/lang/String", "coder", "()B"⟩ ∈ gw := gw_t1 44 rfl rfl
theorem kw45 : Cond.selects "java/lang/String" ⟨"java/lang/String", "coder", "()B"⟩ ⟨"java/lang/String", "coder", "()B"⟩ ∈ gw := gw_t1 45 rfl rfl
theorem kw46 : Cond.code ⟨"java/lang/String", "coder", "()B"⟩ prog_21_method_152_code 1 (some FieldType.byte) ∈ gw := gw_t1 46 rfl rfl
theorem kw47 : Cond.fieldLink "java/lang/String" 38 "java/lang/String" "COMPACT_STRINGS" "Z" ∈ gw := gw_t1 47 rfl rfl
theorem kw49 : Cond.methodLink "LanternState$Tape" 27 ⟨"java/lang/String", "charAt", "(I)C"⟩ ∈ gw := gw_t1 49 rfl rfl
theorem kw50 : Cond.instanceMethod ⟨"java/lang/String", "charAt", "(I)C"⟩ ∈ gw := gw_t1 50 rfl rfl
theorem kw51 : Cond.selects "java/lang/String" ⟨"java/lang/String", "charAt", "(I)C"⟩ ⟨"java/lang/String", "charAt", "(I)C"⟩ ∈ gw := gw_t1 51 rfl rfl
theorem kw52 : Cond.code ⟨"java/lang/String", "charAt", "(I)C"⟩ prog_21_method_56_code 2 (some FieldType.char) ∈ gw := gw_t1 52 rfl rfl
theorem kw53 : Cond.methodLink "java/lang/String" 492 ⟨"java/lang/String", "isLatin1", "()Z"⟩ ∈ gw := gw_t1 53 rfl rfl
theorem kw54 : Cond.instanceMethod ⟨"java/lang/String", "isLatin1", "()Z"⟩ ∈ gw := gw_t1 54 rfl rfl
theorem kw55 : Cond.selects "java/lang/String" ⟨"java/lang/String", "isLatin1", "()Z"⟩ ⟨"java/lang/String", "isLatin1", "()Z"⟩ ∈ gw := gw_t1 55 rfl rfl
theorem kw56 : Cond.code ⟨"java/lang/String", "isLatin1", "()Z"⟩ prog_21_method_154_code 1 (some FieldType.boolean) ∈ gw := gw_t1 56 rfl rfl
theorem kw57 : Cond.methodLink "java/lang/String" 495 ⟨"java/lang/StringLatin1", "charAt", "([BI)C"⟩ ∈ gw := gw_t1 57 rfl rfl
theorem kw58 : Cond.static ⟨"java/lang/StringLatin1", "charAt", "([BI)C"⟩ ∈ gw := gw_t1 58 rfl rfl
theorem kw59 : Cond.code ⟨"java/lang/StringLatin1", "charAt", "([BI)C"⟩ prog_22_method_2_code 2 (some FieldType.char) ∈ gw := gw_t1 59 rfl rfl
theorem kw60 : Cond.methodLink "java/lang/StringLatin1" 9 ⟨"java/lang/String", "checkIndex", "(II)V"⟩ ∈ gw := gw_t1 60 rfl rfl
theorem kw61 : Cond.static ⟨"java/lang/String", "checkIndex", "(II)V"⟩ ∈ gw := gw_t1 61 rfl rfl
theorem kw62 : Cond.code ⟨"java/lang/String", "checkIndex", "(II)V"⟩ prog_21_method_155_code 2 none ∈ gw := gw_t1 62 rfl rfl
theorem kw63 : Cond.fieldLink "java/lang/String" 1053 "jdk/internal/util/Preconditions" "SIOOBE_FORMATTER" "Ljava/util/function/BiFunction;" ∈ gw := gw_t1 63 rfl rfl
theorem kw65 : Cond.methodLink "java/lang/String" 1059 ⟨"jdk/internal/util/Preconditions", "checkIndex", "(IILjava/util/function/BiFunction;)I"⟩ ∈ gw := gw_t1 65 rfl rfl
theorem kw66 : Cond.static ⟨"jdk/internal/util/Preconditions", "checkIndex", "(IILjava/util/function/BiFunction;)I"⟩ ∈ gw := gw_t1 66 rfl rfl
theorem kw67 : Cond.code ⟨"jdk/internal/util/Preconditions", "checkIndex", "(IILjava/util/function/BiFunction;)I"⟩ prog_29_method_11_code 3 (some FieldType.int) ∈ gw := gw_t1 67 rfl rfl
theorem kw68 : Cond.methodLink "java/lang/String" 498 ⟨"java/lang/StringUTF16", "charAt", "([BI)C"⟩ ∈ gw := gw_t1 68 rfl rfl
theorem kw69 : Cond.static ⟨"java/lang/StringUTF16", "charAt", "([BI)C"⟩ ∈ gw := gw_t1 69 rfl rfl
theorem kw70 : Cond.code ⟨"java/lang/StringUTF16", "charAt", "([BI)C"⟩ prog_23_method_83_code 2 (some FieldType.char) ∈ gw := gw_t1 70 rfl rfl
theorem kw71 : Cond.methodLink "java/lang/StringUTF16" 67 ⟨"java/lang/StringUTF16", "checkIndex", "(I[B)V"⟩ ∈ gw := gw_t1 71 rfl rfl
theorem kw72 : Cond.static ⟨"java/lang/StringUTF16", "checkIndex", "(I[B)V"⟩ ∈ gw := gw_t1 72 rfl rfl
theorem kw73 : Cond.code ⟨"java/lang/StringUTF16", "checkIndex", "(I[B)V"⟩ prog_23_method_91_code 2 none ∈ gw := gw_t1 73 rfl rfl
theorem kw74 : Cond.methodLink "java/lang/StringUTF16" 48 ⟨"java/lang/StringUTF16", "length", "([B)I"⟩ ∈ gw := gw_t1 74 rfl rfl
theorem kw75 : Cond.static ⟨"java/lang/StringUTF16", "length", "([B)I"⟩ ∈ gw := gw_t1 75 rfl rfl
theorem kw76 : Cond.code ⟨"java/lang/StringUTF16", "length", "([B)I"⟩ prog_23_method_6_code 1 (some FieldType.int) ∈ gw := gw_t1 76 rfl rfl
theorem kw77 : Cond.methodLink "java/lang/StringUTF16" 414 ⟨"java/lang/String", "checkIndex", "(II)V"⟩ ∈ gw := gw_t1 77 rfl rfl
theorem kw78 : Cond.methodLink "java/lang/StringUTF16" 71 ⟨"java/lang/StringUTF16", "getChar", "([BI)C"⟩ ∈ gw := gw_t1 78 rfl rfl
theorem kw79 : Cond.static ⟨"java/lang/StringUTF16", "getChar", "([BI)C"⟩ ∈ gw := gw_t1 79 rfl rfl
theorem kw80 : Cond.code ⟨"java/lang/StringUTF16", "getChar", "([BI)C"⟩ prog_23_method_5_code 2 (some FieldType.char) ∈ gw := gw_t1 80 rfl rfl
theorem kw81 : Cond.fieldLink "java/lang/StringUTF16" 44 "java/lang/StringUTF16" "$assertionsDisabled" "Z" ∈ gw := gw_t1 81 rfl rfl
theorem kw83 : Cond.fieldLink "java/lang/StringUTF16" 59 "java/lang/StringUTF16" "HI_BYTE_SHIFT" "I" ∈ gw := gw_t1 83 rfl rfl
theorem kw85 : Cond.fieldLink "java/lang/StringUTF16" 63 "java/lang/StringUTF16" "LO_BYTE_SHIFT" "I" ∈ gw := gw_t1 85 rfl rfl
theorem kw87 : Cond.constantLong "LanternState$Tape" 31 (32) ∈ gw := gw_t1 87 rfl rfl
theorem kw88 : Cond.fieldLink "LanternState$Tape" 9 "LanternState$Tape" "keyCodes" "[J" ∈ gw := gw_t1 88 rfl rfl
theorem kw89 : Cond.fieldLink "LanternState$Tape" 15 "LanternState$Tape" "bytes" "[B" ∈ gw := gw_t1 89 rfl rfl
theorem kw90 : Cond.fieldLink "LanternState" 92 "LanternState$Tape" "size" "I" ∈ gw := gw_t1 90 rfl rfl
theorem kw91 : Cond.fieldLink "LanternState$Tape" 33 "LanternState$Tape" "size" "I" ∈ gw := gw_t1 91 rfl rfl
theorem kw92 : Cond.fieldLink "LanternState$Tape" 47 "LanternState$Tape" "most" "I" ∈ gw := gw_t1 92 rfl rfl
theorem kw93 : Cond.fieldLink "LanternState$Tape" 50 "LanternState$Tape" "from" "I" ∈ gw := gw_t1 93 rfl rfl
theorem kw94 : Cond.fieldLink "LanternState$Book" 33 "LanternState$Tape" "kind" "I" ∈ gw := gw_t1 94 rfl rfl
theorem kw95 : Cond.fieldLink "LanternState$Sentence" 50 "LanternState$Tape" "kind" "I" ∈ gw := gw_t1 95 rfl rfl
theorem kw96 : Cond.fieldLink "LanternState$Scene" 82 "LanternState$Tape" "kind" "I" ∈ gw := gw_t1 96 rfl rfl
theorem kw97 : Cond.fieldLink "LanternState$Tape" 72 "LanternState$Tape" "kind" "I" ∈ gw := gw_t1 97 rfl rfl
theorem kw98 : Cond.fieldLink "LanternState$Tape" 59 "LanternState$Tape" "place" "I" ∈ gw := gw_t1 98 rfl rfl
theorem kw99 : Cond.fieldLink "LanternState$Book" 68 "LanternState$Tape" "value" "I" ∈ gw := gw_t1 99 rfl rfl
theorem kw100 : Cond.fieldLink "LanternState$Scene" 135 "LanternState$Tape" "value" "I" ∈ gw := gw_t1 100 rfl rfl
theorem kw101 : Cond.fieldLink "LanternState$Tape" 62 "LanternState$Tape" "value" "I" ∈ gw := gw_t1 101 rfl rfl
theorem kw102 : Cond.fieldLink "LanternState$Sentence" 90 "LanternState$Tape" "value" "I" ∈ gw := gw_t1 102 rfl rfl
theorem kw103 : Cond.fieldLink "LanternState$Book" 51 "LanternState$Tape" "code" "J" ∈ gw := gw_t1 103 rfl rfl
theorem kw104 : Cond.fieldLink "LanternState$Scene" 123 "LanternState$Tape" "code" "J" ∈ gw := gw_t1 104 rfl rfl
theorem kw105 : Cond.fieldLink "LanternState$Tape" 65 "LanternState$Tape" "code" "J" ∈ gw := gw_t1 105 rfl rfl
theorem kw106 : Cond.fieldLink "LanternState$Book" 44 "LanternState$Tape" "key" "I" ∈ gw := gw_t1 106 rfl rfl
theorem kw107 : Cond.fieldLink "LanternState$Sentence" 60 "LanternState$Tape" "key" "I" ∈ gw := gw_t1 107 rfl rfl
theorem kw108 : Cond.fieldLink "LanternState$Scene" 93 "LanternState$Tape" "key" "I" ∈ gw := gw_t1 108 rfl rfl
theorem kw109 : Cond.fieldLink "LanternState$Tape" 69 "LanternState$Tape" "key" "I" ∈ gw := gw_t1 109 rfl rfl
theorem kw110 : Cond.fieldLink "LanternState$Tape" 53 "LanternState$Tape" "fault" "I" ∈ gw := gw_t1 110 rfl rfl
theorem kw111 : Cond.fieldLink "LanternState" 354 "LanternState$Tape" "fault" "I" ∈ gw := gw_t1 111 rfl rfl
theorem kw112 : Cond.fieldLink "LanternState" 109 "LanternState$Tape" "faultPlace" "I" ∈ gw := gw_t1 112 rfl rfl
theorem kw113 : Cond.fieldLink "LanternState$Tape" 56 "LanternState$Tape" "faultPlace" "I" ∈ gw := gw_t1 113 rfl rfl
theorem kw114 : Cond.laysFinal "LanternState$Tape" "LanternState$Tape" "keyCodes" "[J" ∈ gw := gw_t1 114 rfl rfl
theorem kw116 : Cond.laysFinal "LanternState$Tape" "LanternState$Tape" "bytes" "[B" ∈ gw := gw_t1 116 rfl rfl
theorem kw118 : Cond.lays "LanternState$Tape" "LanternState$Tape" "size" "I" ∈ gw := gw_t1 118 rfl rfl
theorem kw120 : Cond.lays "LanternState$Tape" "LanternState$Tape" "most" "I" ∈ gw := gw_t1 120 rfl rfl
theorem kw122 : Cond.lays "LanternState$Tape" "LanternState$Tape" "from" "I" ∈ gw := gw_t1 122 rfl rfl
theorem kw124 : Cond.lays "LanternState$Tape" "LanternState$Tape" "kind" "I" ∈ gw := gw_t1 124 rfl rfl
theorem kw126 : Cond.lays "LanternState$Tape" "LanternState$Tape" "place" "I" ∈ gw := gw_t1 126 rfl rfl
theorem kw128 : Cond.lays "LanternState$Tape" "LanternState$Tape" "value" "I" ∈ gw := gw_t1 128 rfl rfl
theorem kw130 : Cond.lays "LanternState$Tape" "LanternState$Tape" "code" "J" ∈ gw := gw_t1 130 rfl rfl
theorem kw132 : Cond.lays "LanternState$Tape" "LanternState$Tape" "key" "I" ∈ gw := gw_t1 132 rfl rfl
theorem kw134 : Cond.lays "LanternState$Tape" "LanternState$Tape" "fault" "I" ∈ gw := gw_t1 134 rfl rfl
theorem kw136 : Cond.lays "LanternState$Tape" "LanternState$Tape" "faultPlace" "I" ∈ gw := gw_t1 136 rfl rfl
theorem kw139 : Cond.arrayClass FieldType.long ∈ gw := gw_t1 139 rfl rfl
theorem kw140 : Cond.arrayClass FieldType.byte ∈ gw := gw_t1 140 rfl rfl
theorem kw141 : Cond.classLink "LanternState" 16 "LanternState$Scene" ∈ gw := gw_t1 141 rfl rfl
theorem kw142 : Cond.instantiable "LanternState$Scene" 18 ∈ gw := gw_t1 142 rfl rfl
theorem kw144 : Cond.instanceMethod ⟨"LanternState$Scene", "<init>", "()V"⟩ ∈ gw := gw_t1 144 rfl rfl
theorem kw145 : Cond.code ⟨"LanternState$Scene", "<init>", "()V"⟩ prog_7_method_1_code 1 none ∈ gw := gw_t1 145 rfl rfl
theorem kw146 : Cond.methodLink "LanternState$Scene" 3 ⟨"java/lang/Object", "<init>", "()V"⟩ ∈ gw := gw_t1 146 rfl rfl
theorem kw147 : Cond.fieldLink "LanternState$Scene" 47 "LanternState$Scene" "slides" "I" ∈ gw := gw_t1 147 rfl rfl
theorem kw148 : Cond.fieldLink "LanternState$Search" 22 "LanternState$Scene" "slides" "I" ∈ gw := gw_t1 148 rfl rfl
theorem kw149 : Cond.fieldLink "LanternState$State" 68 "LanternState$Scene" "slides" "I" ∈ gw := gw_t1 149 rfl rfl
theorem kw150 : Cond.fieldLink "LanternState$Sentence" 93 "LanternState$Scene" "slides" "I" ∈ gw := gw_t1 150 rfl rfl
theorem kw151 : Cond.fieldLink "LanternState" 284 "LanternState$Scene" "slides" "I" ∈ gw := gw_t1 151 rfl rfl
theorem kw152 : Cond.fieldLink "LanternState$Scene" 50 "LanternState$Scene" "hearers" "I" ∈ gw := gw_t1 152 rfl rfl
theorem kw153 : Cond.fieldLink "LanternState$Search" 85 "LanternState$Scene" "hearers" "I" ∈ gw := gw_t1 153 rfl rfl
theorem kw154 : Cond.fieldLink "LanternState$State" 86 "LanternState$Scene" "hearers" "I" ∈ gw := gw_t1 154 rfl rfl
theorem kw155 : Cond.fieldLink "LanternState" 258 "LanternState$Scene" "hearers" "I" ∈ gw := gw_t1 155 rfl rfl
theorem kw156 : Cond.fieldLink "LanternState$Scene" 53 "LanternState$Scene" "nears" "I" ∈ gw := gw_t1 156 rfl rfl
theorem kw157 : Cond.fieldLink "LanternState" 341 "LanternState$Scene" "nears" "I" ∈ gw := gw_t1 157 rfl rfl
theorem kw158 : Cond.fieldLink "LanternState$Scene" 56 "LanternState$Scene" "lines" "I" ∈ gw := gw_t1 158 rfl rfl
theorem kw159 : Cond.fieldLink "LanternState" 126 "LanternState$Scene" "lines" "I" ∈ gw := gw_t1 159 rfl rfl
theorem kw160 : Cond.fieldLink "LanternState$Scene" 9 "LanternState$Scene" "pass" "I" ∈ gw := gw_t1 160 rfl rfl
theorem kw161 : Cond.fieldLink "LanternState" 344 "LanternState$Scene" "pass" "I" ∈ gw := gw_t1 161 rfl rfl
theorem kw162 : Cond.fieldLink "LanternState$Scene" 59 "LanternState$Scene" "spread" "I" ∈ gw := gw_t1 162 rfl rfl
theorem kw163 : Cond.fieldLink "LanternState" 347 "LanternState$Scene" "spread" "I" ∈ gw := gw_t1 163 rfl rfl
theorem kw164 : Cond.fieldLink "LanternState$Scene" 15 "LanternState$Scene" "lamp" "I" ∈ gw := gw_t1 164 rfl rfl
theorem kw165 : Cond.fieldLink "LanternState$Search" 73 "LanternState$Scene" "lamp" "I" ∈ gw := gw_t1 165 rfl rfl
theorem kw166 : Cond.fieldLink "LanternState$State" 80 "LanternState$Scene" "lamp" "I" ∈ gw := gw_t1 166 rfl rfl
theorem kw167 : Cond.fieldLink "LanternState" 350 "LanternState$Scene" "lamp" "I" ∈ gw := gw_t1 167 rfl rfl
theorem kw168 : Cond.fieldLink "LanternState$State" 38 "LanternState$Scene" "behind" "I" ∈ gw := gw_t1 168 rfl rfl
theorem kw169 : Cond.fieldLink "LanternState$Scene" 62 "LanternState$Scene" "behind" "I" ∈ gw := gw_t1 169 rfl rfl
theorem kw170 : Cond.fieldLink "LanternState$Scene" 65 "LanternState$Scene" "settingsTold" "I" ∈ gw := gw_t1 170 rfl rfl
theorem kw171 : Cond.fieldLink "LanternState$Scene" 18 "LanternState$Scene" "slideNames" "[J" ∈ gw := gw_t1 171 rfl rfl
theorem kw172 : Cond.fieldLink "LanternState$Bill" 19 "LanternState$Scene" "slideNames" "[J" ∈ gw := gw_t1 172 rfl rfl
theorem kw173 : Cond.fieldLink "LanternState$Scene" 22 "LanternState$Scene" "pictures" "[I" ∈ gw := gw_t1 173 rfl rfl
theorem kw174 : Cond.fieldLink "LanternState$State" 47 "LanternState$Scene" "pictures" "[I" ∈ gw := gw_t1 174 rfl rfl
theorem kw175 : Cond.fieldLink "LanternState$Scene" 26 "LanternState$Scene" "heats" "[I" ∈ gw := gw_t1 175 rfl rfl
theorem kw176 : Cond.fieldLink "LanternState$Search" 70 "LanternState$Scene" "heats" "[I" ∈ gw := gw_t1 176 rfl rfl
theorem kw177 : Cond.fieldLink "LanternState" 143 "LanternState$Scene" "heats" "[I" ∈ gw := gw_t1 177 rfl rfl
theorem kw178 : Cond.fieldLink "LanternState$State" 77 "LanternState$Scene" "heats" "[I" ∈ gw := gw_t1 178 rfl rfl
theorem kw179 : Cond.fieldLink "LanternState$Sentence" 134 "LanternState$Scene" "heats" "[I" ∈ gw := gw_t1 179 rfl rfl
theorem kw180 : Cond.fieldLink "LanternState$Scene" 29 "LanternState$Scene" "after" "[I" ∈ gw := gw_t1 180 rfl rfl
theorem kw181 : Cond.fieldLink "LanternState$Search" 67 "LanternState$Scene" "after" "[I" ∈ gw := gw_t1 181 rfl rfl
theorem kw182 : Cond.fieldLink "LanternState" 146 "LanternState$Scene" "after" "[I" ∈ gw := gw_t1 182 rfl rfl
theorem kw183 : Cond.fieldLink "LanternState$State" 74 "LanternState$Scene" "after" "[I" ∈ gw := gw_t1 183 rfl rfl
theorem kw184 : Cond.fieldLink "LanternState$Scene" 32 "LanternState$Scene" "hearerNames" "[J" ∈ gw := gw_t1 184 rfl rfl
theorem kw185 : Cond.fieldLink "LanternState$Scene" 35 "LanternState$Scene" "needs" "[I" ∈ gw := gw_t1 185 rfl rfl
theorem kw186 : Cond.fieldLink "LanternState" 193 "LanternState$Scene" "needs" "[I" ∈ gw := gw_t1 186 rfl rfl
theorem kw187 : Cond.fieldLink "LanternState$Scene" 38 "LanternState$Scene" "likes" "[I" ∈ gw := gw_t1 187 rfl rfl
theorem kw188 : Cond.fieldLink "LanternState" 196 "LanternState$Scene" "likes" "[I" ∈ gw := gw_t1 188 rfl rfl
theorem kw189 : Cond.fieldLink "LanternState$Scene" 41 "LanternState$Scene" "hates" "[I" ∈ gw := gw_t1 189 rfl rfl
theorem kw190 : Cond.fieldLink "LanternState" 199 "LanternState$Scene" "hates" "[I" ∈ gw := gw_t1 190 rfl rfl
theorem kw191 : Cond.fieldLink "LanternState$Scene" 44 "LanternState$Scene" "near" "[I" ∈ gw := gw_t1 191 rfl rfl
theorem kw192 : Cond.fieldLink "LanternState" 205 "LanternState$Scene" "near" "[I" ∈ gw := gw_t1 192 rfl rfl
theorem kw193 : Cond.lays "LanternState$Scene" "LanternState$Scene" "slides" "I" ∈ gw := gw_t1 193 rfl rfl
theorem kw195 : Cond.lays "LanternState$Scene" "LanternState$Scene" "hearers" "I" ∈ gw := gw_t1 195 rfl rfl
theorem kw197 : Cond.lays "LanternState$Scene" "LanternState$Scene" "nears" "I" ∈ gw := gw_t1 197 rfl rfl
theorem kw199 : Cond.lays "LanternState$Scene" "LanternState$Scene" "lines" "I" ∈ gw := gw_t1 199 rfl rfl
theorem kw201 : Cond.lays "LanternState$Scene" "LanternState$Scene" "pass" "I" ∈ gw := gw_t1 201 rfl rfl
theorem kw203 : Cond.lays "LanternState$Scene" "LanternState$Scene" "spread" "I" ∈ gw := gw_t1 203 rfl rfl
theorem kw205 : Cond.lays "LanternState$Scene" "LanternState$Scene" "lamp" "I" ∈ gw := gw_t1 205 rfl rfl
theorem kw207 : Cond.lays "LanternState$Scene" "LanternState$Scene" "behind" "I" ∈ gw := gw_t1 207 rfl rfl
theorem kw209 : Cond.lays "LanternState$Scene" "LanternState$Scene" "settingsTold" "I" ∈ gw := gw_t1 209 rfl rfl
theorem kw211 : Cond.laysFinal "LanternState$Scene" "LanternState$Scene" "slideNames" "[J" ∈ gw := gw_t1 211 rfl rfl
theorem kw213 : Cond.laysFinal "LanternState$Scene" "LanternState$Scene" "pictures" "[I" ∈ gw := gw_t1 213 rfl rfl
theorem kw215 : Cond.laysFinal "LanternState$Scene" "LanternState$Scene" "heats" "[I" ∈ gw := gw_t1 215 rfl rfl
theorem kw217 : Cond.laysFinal "LanternState$Scene" "LanternState$Scene" "after" "[I" ∈ gw := gw_t1 217 rfl rfl
theorem kw219 : Cond.laysFinal "LanternState$Scene" "LanternState$Scene" "hearerNames" "[J" ∈ gw := gw_t1 219 rfl rfl
theorem kw221 : Cond.laysFinal "LanternState$Scene" "LanternState$Scene" "needs" "[I" ∈ gw := gw_t1 221 rfl rfl
theorem kw223 : Cond.laysFinal "LanternState$Scene" "LanternState$Scene" "likes" "[I" ∈ gw := gw_t1 223 rfl rfl
theorem kw225 : Cond.laysFinal "LanternState$Scene" "LanternState$Scene" "hates" "[I" ∈ gw := gw_t1 225 rfl rfl
theorem kw227 : Cond.laysFinal "LanternState$Scene" "LanternState$Scene" "near" "[I" ∈ gw := gw_t1 227 rfl rfl
theorem kw230 : Cond.arrayClass FieldType.int ∈ gw := gw_t1 230 rfl rfl
theorem kw231 : Cond.classLink "LanternState" 26 "LanternState$State" ∈ gw := gw_t1 231 rfl rfl
theorem kw232 : Cond.instantiable "LanternState$State" 11 ∈ gw := gw_t1 232 rfl rfl
theorem kw234 : Cond.instanceMethod ⟨"LanternState$State", "<init>", "()V"⟩ ∈ gw := gw_t1 234 rfl rfl
theorem kw235 : Cond.code ⟨"LanternState$State", "<init>", "()V"⟩ prog_10_method_1_code 1 none ∈ gw := gw_t1 235 rfl rfl
theorem kw236 : Cond.methodLink "LanternState$State" 3 ⟨"java/lang/Object", "<init>", "()V"⟩ ∈ gw := gw_t1 236 rfl rfl
theorem kw237 : Cond.fieldLink "LanternState$State" 21 "LanternState$State" "hour" "I" ∈ gw := gw_t1 237 rfl rfl
theorem kw238 : Cond.fieldLink "LanternState$Book" 124 "LanternState$State" "hour" "I" ∈ gw := gw_t1 238 rfl rfl
theorem kw239 : Cond.fieldLink "LanternState" 214 "LanternState$State" "hour" "I" ∈ gw := gw_t1 239 rfl rfl
theorem kw240 : Cond.fieldLink "LanternState$State" 25 "LanternState$State" "heat" "I" ∈ gw := gw_t2 0 rfl rfl
theorem kw241 : Cond.fieldLink "LanternState$Search" 60 "LanternState$State" "heat" "I" ∈ gw := gw_t2 1 rfl rfl
theorem kw242 : Cond.fieldLink "LanternState" 217 "LanternState$State" "heat" "I" ∈ gw := gw_t2 2 rfl rfl
theorem kw243 : Cond.fieldLink "LanternState$State" 28 "LanternState$State" "black" "Z" ∈ gw := gw_t2 3 rfl rfl
theorem kw244 : Cond.fieldLink "LanternState$Search" 52 "LanternState$State" "black" "Z" ∈ gw := gw_t2 4 rfl rfl
theorem kw245 : Cond.fieldLink "LanternState" 220 "LanternState$State" "black" "Z" ∈ gw := gw_t2 5 rfl rfl
theorem kw246 : Cond.fieldLink "LanternState$Bill" 29 "LanternState$State" "so" "I" ∈ gw := gw_t2 6 rfl rfl
theorem kw247 : Cond.fieldLink "LanternState$State" 32 "LanternState$State" "so" "I" ∈ gw := gw_t2 7 rfl rfl
theorem kw248 : Cond.fieldLink "LanternState$Search" 27 "LanternState$State" "so" "I" ∈ gw := gw_t2 8 rfl rfl
theorem kw249 : Cond.fieldLink "LanternState" 149 "LanternState$State" "so" "I" ∈ gw := gw_t2 9 rfl rfl
theorem kw250 : Cond.fieldLink "LanternState$Sentence" 100 "LanternState$State" "so" "I" ∈ gw := gw_t2 10 rfl rfl
theorem kw251 : Cond.fieldLink "LanternState$State" 35 "LanternState$State" "cracked" "I" ∈ gw := gw_t2 11 rfl rfl
theorem kw252 : Cond.fieldLink "LanternState$Search" 32 "LanternState$State" "cracked" "I" ∈ gw := gw_t2 12 rfl rfl
theorem kw253 : Cond.fieldLink "LanternState$Bill" 40 "LanternState$State" "cracked" "I" ∈ gw := gw_t2 13 rfl rfl
theorem kw254 : Cond.fieldLink "LanternState" 152 "LanternState$State" "cracked" "I" ∈ gw := gw_t2 14 rfl rfl
theorem kw255 : Cond.fieldLink "LanternState$Sentence" 105 "LanternState$State" "cracked" "I" ∈ gw := gw_t2 15 rfl rfl
theorem kw256 : Cond.fieldLink "LanternState$State" 43 "LanternState$State" "behind" "I" ∈ gw := gw_t2 16 rfl rfl
theorem kw257 : Cond.fieldLink "LanternState$Search" 38 "LanternState$State" "behind" "I" ∈ gw := gw_t2 17 rfl rfl
theorem kw258 : Cond.fieldLink "LanternState" 208 "LanternState$State" "behind" "I" ∈ gw := gw_t2 18 rfl rfl
theorem kw259 : Cond.fieldLink "LanternState$Sentence" 137 "LanternState$State" "behind" "I" ∈ gw := gw_t2 19 rfl rfl
theorem kw260 : Cond.fieldLink "LanternState$State" 44 "LanternState$State" "allSighs" "I" ∈ gw := gw_t2 20 rfl rfl
theorem kw261 : Cond.fieldLink "LanternState" 223 "LanternState$State" "allSighs" "I" ∈ gw := gw_t2 21 rfl rfl
theorem kw262 : Cond.fieldLink "LanternState$State" 110 "LanternState$State" "seed" "I" ∈ gw := gw_t2 22 rfl rfl
theorem kw263 : Cond.fieldLink "LanternState$State" 9 "LanternState$State" "pictures" "[I" ∈ gw := gw_t2 23 rfl rfl
theorem kw264 : Cond.fieldLink "LanternState$Search" 35 "LanternState$State" "pictures" "[I" ∈ gw := gw_t2 24 rfl rfl
theorem kw265 : Cond.fieldLink "LanternState" 158 "LanternState$State" "pictures" "[I" ∈ gw := gw_t2 25 rfl rfl
theorem kw266 : Cond.fieldLink "LanternState$Sentence" 116 "LanternState$State" "pictures" "[I" ∈ gw := gw_t2 26 rfl rfl
theorem kw267 : Cond.fieldLink "LanternState$State" 15 "LanternState$State" "shown" "[I" ∈ gw := gw_t2 27 rfl rfl
theorem kw268 : Cond.fieldLink "LanternState" 155 "LanternState$State" "shown" "[I" ∈ gw := gw_t2 28 rfl rfl
theorem kw269 : Cond.fieldLink "LanternState$State" 18 "LanternState$State" "sighed" "[I" ∈ gw := gw_t2 29 rfl rfl
theorem kw270 : Cond.fieldLink "LanternState" 202 "LanternState$State" "sighed" "[I" ∈ gw := gw_t2 30 rfl rfl
theorem kw271 : Cond.lays "LanternState$State" "LanternState$State" "hour" "I" ∈ gw := gw_t2 31 rfl rfl
theorem kw273 : Cond.lays "LanternState$State" "LanternState$State" "heat" "I" ∈ gw := gw_t2 33 rfl rfl
theorem kw275 : Cond.lays "LanternState$State" "LanternState$State" "black" "Z" ∈ gw := gw_t2 35 rfl rfl
theorem kw277 : Cond.lays "LanternState$State" "LanternState$State" "so" "I" ∈ gw := gw_t2 37 rfl rfl
theorem kw279 : Cond.lays "LanternState$State" "LanternState$State" "cracked" "I" ∈ gw := gw_t2 39 rfl rfl
theorem kw281 : Cond.lays "LanternState$State" "LanternState$State" "behind" "I" ∈ gw := gw_t2 41 rfl rfl
theorem kw283 : Cond.lays "LanternState$State" "LanternState$State" "allSighs" "I" ∈ gw := gw_t2 43 rfl rfl
theorem kw285 : Cond.lays "LanternState$State" "LanternState$State" "seed" "I" ∈ gw := gw_t2 45 rfl rfl
theorem kw287 : Cond.laysFinal "LanternState$State" "LanternState$State" "pictures" "[I" ∈ gw := gw_t2 47 rfl rfl
theorem kw289 : Cond.laysFinal "LanternState$State" "LanternState$State" "shown" "[I" ∈ gw := gw_t2 49 rfl rfl
theorem kw291 : Cond.laysFinal "LanternState$State" "LanternState$State" "sighed" "[I" ∈ gw := gw_t2 51 rfl rfl
theorem kw294 : Cond.classLink "LanternState" 36 "LanternState$History" ∈ gw := gw_t2 54 rfl rfl
theorem kw295 : Cond.instantiable "LanternState$History" 3 ∈ gw := gw_t2 55 rfl rfl
theorem kw296 : Cond.methodLink "LanternState" 38 ⟨"LanternState$History", "<init>", "()V"⟩ ∈ gw := gw_t2 56 rfl rfl
theorem kw297 : Cond.instanceMethod ⟨"LanternState$History", "<init>", "()V"⟩ ∈ gw := gw_t2 57 rfl rfl
theorem kw298 : Cond.code ⟨"LanternState$History", "<init>", "()V"⟩ prog_4_method_1_code 2 none ∈ gw := gw_t2 58 rfl rfl
theorem kw299 : Cond.methodLink "LanternState$History" 3 ⟨"java/lang/Object", "<init>", "()V"⟩ ∈ gw := gw_t2 59 rfl rfl
theorem kw300 : Cond.classLink "LanternState$History" 9 "LanternState$State" ∈ gw := gw_t2 60 rfl rfl
theorem kw303 : Cond.fieldLink "LanternState$History" 11 "LanternState$History" "kept" "[LLanternState$State;" ∈ gw := gw_t2 63 rfl rfl
theorem kw304 : Cond.fieldLink "LanternState$History" 22 "LanternState$History" "first" "I" ∈ gw := gw_t2 64 rfl rfl
theorem kw305 : Cond.fieldLink "LanternState$History" 18 "LanternState$History" "size" "I" ∈ gw := gw_t2 65 rfl rfl
theorem kw306 : Cond.fieldLink "LanternState" 251 "LanternState$History" "size" "I" ∈ gw := gw_t2 66 rfl rfl
theorem kw307 : Cond.laysFinal "LanternState$History" "LanternState$History" "kept" "[LLanternState$State;" ∈ gw := gw_t2 67 rfl rfl
theorem kw309 : Cond.lays "LanternState$History" "LanternState$History" "first" "I" ∈ gw := gw_t2 69 rfl rfl
theorem kw311 : Cond.lays "LanternState$History" "LanternState$History" "size" "I" ∈ gw := gw_t2 71 rfl rfl
theorem kw314 : Cond.classLink "LanternState" 43 "LanternState$Sentence" ∈ gw := gw_t2 74 rfl rfl
theorem kw315 : Cond.instantiable "LanternState$Sentence" 7 ∈ gw := gw_t2 75 rfl rfl
theorem kw317 : Cond.instanceMethod ⟨"LanternState$Sentence", "<init>", "()V"⟩ ∈ gw := gw_t2 77 rfl rfl
theorem kw318 : Cond.code ⟨"LanternState$Sentence", "<init>", "()V"⟩ prog_9_method_1_code 1 none ∈ gw := gw_t2 78 rfl rfl
theorem kw319 : Cond.methodLink "LanternState$Sentence" 3 ⟨"java/lang/Object", "<init>", "()V"⟩ ∈ gw := gw_t2 79 rfl rfl
theorem kw320 : Cond.fieldLink "LanternState$Sentence" 24 "LanternState$Sentence" "there" "Z" ∈ gw := gw_t2 80 rfl rfl
theorem kw321 : Cond.fieldLink "LanternState" 119 "LanternState$Sentence" "there" "Z" ∈ gw := gw_t2 81 rfl rfl
theorem kw322 : Cond.fieldLink "LanternState$Sentence" 28 "LanternState$Sentence" "ones" "I" ∈ gw := gw_t2 82 rfl rfl
theorem kw323 : Cond.fieldLink "LanternState" 329 "LanternState$Sentence" "ones" "I" ∈ gw := gw_t2 83 rfl rfl
theorem kw324 : Cond.fieldLink "LanternState$Sentence" 32 "LanternState$Sentence" "parts" "I" ∈ gw := gw_t2 84 rfl rfl
theorem kw325 : Cond.fieldLink "LanternState$Sentence" 11 "LanternState$Sentence" "keys" "[I" ∈ gw := gw_t2 85 rfl rfl
theorem kw326 : Cond.fieldLink "LanternState$Sentence" 15 "LanternState$Sentence" "signs" "[I" ∈ gw := gw_t2 86 rfl rfl
theorem kw327 : Cond.fieldLink "LanternState$Sentence" 18 "LanternState$Sentence" "numbers" "[I" ∈ gw := gw_t2 87 rfl rfl
theorem kw328 : Cond.fieldLink "LanternState$Sentence" 21 "LanternState$Sentence" "stack" "[I" ∈ gw := gw_t2 88 rfl rfl
theorem kw329 : Cond.lays "LanternState$Sentence" "LanternState$Sentence" "there" "Z" ∈ gw := gw_t2 89 rfl rfl
theorem kw331 : Cond.lays "LanternState$Sentence" "LanternState$Sentence" "ones" "I" ∈ gw := gw_t2 91 rfl rfl
theorem kw333 : Cond.lays "LanternState$Sentence" "LanternState$Sentence" "parts" "I" ∈ gw := gw_t2 93 rfl rfl
theorem kw335 : Cond.laysFinal "LanternState$Sentence" "LanternState$Sentence" "keys" "[I" ∈ gw := gw_t2 95 rfl rfl
theorem kw337 : Cond.laysFinal "LanternState$Sentence" "LanternState$Sentence" "signs" "[I" ∈ gw := gw_t2 97 rfl rfl
theorem kw339 : Cond.laysFinal "LanternState$Sentence" "LanternState$Sentence" "numbers" "[I" ∈ gw := gw_t2 99 rfl rfl
theorem kw341 : Cond.laysFinal "LanternState$Sentence" "LanternState$Sentence" "stack" "[I" ∈ gw := gw_t2 101 rfl rfl
theorem kw344 : Cond.classLink "LanternState" 53 "LanternState$Book" ∈ gw := gw_t2 104 rfl rfl
theorem kw345 : Cond.instantiable "LanternState$Book" 6 ∈ gw := gw_t2 105 rfl rfl
theorem kw347 : Cond.instanceMethod ⟨"LanternState$Book", "<init>", "()V"⟩ ∈ gw := gw_t2 107 rfl rfl
theorem kw348 : Cond.code ⟨"LanternState$Book", "<init>", "()V"⟩ prog_3_method_1_code 1 none ∈ gw := gw_t2 108 rfl rfl
theorem kw349 : Cond.methodLink "LanternState$Book" 3 ⟨"java/lang/Object", "<init>", "()V"⟩ ∈ gw := gw_t2 109 rfl rfl
theorem kw350 : Cond.fieldLink "LanternState$Book" 9 "LanternState$Book" "keys" "[I" ∈ gw := gw_t2 110 rfl rfl
theorem kw351 : Cond.fieldLink "LanternState$Book" 15 "LanternState$Book" "whos" "[I" ∈ gw := gw_t2 111 rfl rfl
theorem kw352 : Cond.fieldLink "LanternState$Book" 18 "LanternState$Book" "firsts" "[I" ∈ gw := gw_t2 112 rfl rfl
theorem kw353 : Cond.fieldLink "LanternState$Book" 21 "LanternState$Book" "seconds" "[I" ∈ gw := gw_t2 113 rfl rfl
theorem kw354 : Cond.fieldLink "LanternState$Book" 24 "LanternState$Book" "lines" "I" ∈ gw := gw_t2 114 rfl rfl
theorem kw355 : Cond.fieldLink "LanternState" 324 "LanternState$Book" "lines" "I" ∈ gw := gw_t2 115 rfl rfl
theorem kw356 : Cond.fieldLink "LanternState$Book" 93 "LanternState$Book" "why" "I" ∈ gw := gw_t2 116 rfl rfl
theorem kw357 : Cond.fieldLink "LanternState" 321 "LanternState$Book" "why" "I" ∈ gw := gw_t2 117 rfl rfl
theorem kw358 : Cond.laysFinal "LanternState$Book" "LanternState$Book" "keys" "[I" ∈ gw := gw_t2 118 rfl rfl
theorem kw360 : Cond.laysFinal "LanternState$Book" "LanternState$Book" "whos" "[I" ∈ gw := gw_t2 120 rfl rfl
theorem kw362 : Cond.laysFinal "LanternState$Book" "LanternState$Book" "firsts" "[I" ∈ gw := gw_t2 122 rfl rfl
theorem kw364 : Cond.laysFinal "LanternState$Book" "LanternState$Book" "seconds" "[I" ∈ gw := gw_t2 124 rfl rfl
theorem kw366 : Cond.lays "LanternState$Book" "LanternState$Book" "lines" "I" ∈ gw := gw_t2 126 rfl rfl
theorem kw368 : Cond.lays "LanternState$Book" "LanternState$Book" "why" "I" ∈ gw := gw_t2 128 rfl rfl
theorem kw371 : Cond.classLink "LanternState" 60 "LanternState$Search" ∈ gw := gw_t2 131 rfl rfl
theorem kw372 : Cond.instantiable "LanternState$Search" 7 ∈ gw := gw_t2 132 rfl rfl
theorem kw374 : Cond.instanceMethod ⟨"LanternState$Search", "<init>", "()V"⟩ ∈ gw := gw_t2 134 rfl rfl
theorem kw375 : Cond.code ⟨"LanternState$Search", "<init>", "()V"⟩ prog_8_method_1_code 1 none ∈ gw := gw_t2 135 rfl rfl
theorem kw376 : Cond.methodLink "LanternState$Search" 3 ⟨"java/lang/Object", "<init>", "()V"⟩ ∈ gw := gw_t2 136 rfl rfl
theorem kw377 : Cond.fieldLink "LanternState$Search" 9 "LanternState$Search" "bestPath" "[I" ∈ gw := gw_t2 137 rfl rfl
theorem kw378 : Cond.fieldLink "LanternState" 271 "LanternState$Search" "bestPath" "[I" ∈ gw := gw_t2 138 rfl rfl
theorem kw379 : Cond.fieldLink "LanternState$Search" 76 "LanternState$Search" "bestSize" "I" ∈ gw := gw_t2 139 rfl rfl
theorem kw380 : Cond.fieldLink "LanternState" 268 "LanternState$Search" "bestSize" "I" ∈ gw := gw_t2 140 rfl rfl
theorem kw381 : Cond.fieldLink "LanternState$Search" 49 "LanternState$Search" "bestPassed" "I" ∈ gw := gw_t2 141 rfl rfl
theorem kw382 : Cond.fieldLink "LanternState$Search" 15 "LanternState$Search" "path" "[I" ∈ gw := gw_t2 142 rfl rfl
theorem kw383 : Cond.fieldLink "LanternState$Search" 18 "LanternState$Search" "passing" "I" ∈ gw := gw_t2 143 rfl rfl
theorem kw384 : Cond.fieldLink "LanternState$Search" 100 "LanternState$Search" "picture" "I" ∈ gw := gw_t2 144 rfl rfl
theorem kw385 : Cond.fieldLink "LanternState$Search" 103 "LanternState$Search" "behind" "I" ∈ gw := gw_t2 145 rfl rfl
theorem kw386 : Cond.laysFinal "LanternState$Search" "LanternState$Search" "bestPath" "[I" ∈ gw := gw_t2 146 rfl rfl
theorem kw388 : Cond.lays "LanternState$Search" "LanternState$Search" "bestSize" "I" ∈ gw := gw_t2 148 rfl rfl
theorem kw390 : Cond.lays "LanternState$Search" "LanternState$Search" "bestPassed" "I" ∈ gw := gw_t2 150 rfl rfl
theorem kw392 : Cond.laysFinal "LanternState$Search" "LanternState$Search" "path" "[I" ∈ gw := gw_t2 152 rfl rfl
theorem kw394 : Cond.lays "LanternState$Search" "LanternState$Search" "passing" "I" ∈ gw := gw_t2 154 rfl rfl
theorem kw396 : Cond.lays "LanternState$Search" "LanternState$Search" "picture" "I" ∈ gw := gw_t2 156 rfl rfl
theorem kw398 : Cond.lays "LanternState$Search" "LanternState$Search" "behind" "I" ∈ gw := gw_t2 158 rfl rfl
theorem kw401 : Cond.classLink "LanternState" 67 "LanternState$Bill" ∈ gw := gw_t2 161 rfl rfl
theorem kw402 : Cond.instantiable "LanternState$Bill" 2 ∈ gw := gw_t2 162 rfl rfl
theorem kw404 : Cond.instanceMethod ⟨"LanternState$Bill", "<init>", "()V"⟩ ∈ gw := gw_t2 164 rfl rfl
theorem kw405 : Cond.code ⟨"LanternState$Bill", "<init>", "()V"⟩ prog_2_method_1_code 1 none ∈ gw := gw_t2 165 rfl rfl
theorem kw406 : Cond.methodLink "LanternState$Bill" 3 ⟨"java/lang/Object", "<init>", "()V"⟩ ∈ gw := gw_t2 166 rfl rfl
theorem kw407 : Cond.fieldLink "LanternState$Bill" 11 "LanternState$Bill" "letters" "[C" ∈ gw := gw_t2 167 rfl rfl
theorem kw408 : Cond.fieldLink "LanternState" 305 "LanternState$Bill" "letters" "[C" ∈ gw := gw_t2 168 rfl rfl
theorem kw409 : Cond.fieldLink "LanternState$Bill" 15 "LanternState$Bill" "size" "I" ∈ gw := gw_t2 169 rfl rfl
theorem kw410 : Cond.fieldLink "LanternState" 304 "LanternState$Bill" "size" "I" ∈ gw := gw_t2 170 rfl rfl
theorem kw411 : Cond.laysFinal "LanternState$Bill" "LanternState$Bill" "letters" "[C" ∈ gw := gw_t2 171 rfl rfl
theorem kw413 : Cond.lays "LanternState$Bill" "LanternState$Bill" "size" "I" ∈ gw := gw_t2 173 rfl rfl
theorem kw416 : Cond.arrayClass FieldType.char ∈ gw := gw_t2 176 rfl rfl
theorem kw417 : Cond.classLink "LanternState" 74 "LanternState$Image" ∈ gw := gw_t2 177 rfl rfl
theorem kw419 : Cond.instantiable "LanternState$Image" 4 ∈ gw := gw_t2 179 rfl rfl
theorem kw421 : Cond.instanceMethod ⟨"LanternState$Image", "<init>", "()V"⟩ ∈ gw := gw_t2 181 rfl rfl
theorem kw422 : Cond.code ⟨"LanternState$Image", "<init>", "()V"⟩ prog_5_method_1_code 1 none ∈ gw := gw_t2 182 rfl rfl
theorem kw423 : Cond.methodLink "LanternState$Image" 1 ⟨"java/lang/Object", "<init>", "()V"⟩ ∈ gw := gw_t2 183 rfl rfl
theorem kw424 : Cond.classLink "LanternState$Image" 7 "LanternState$Scene" ∈ gw := gw_t2 184 rfl rfl
theorem kw426 : Cond.classLink "LanternState$Image" 16 "LanternState$State" ∈ gw := gw_t2 186 rfl rfl
theorem kw428 : Cond.classLink "LanternState$Image" 23 "LanternState$Sentence" ∈ gw := gw_t2 188 rfl rfl
theorem kw430 : Cond.fieldLink "LanternState" 338 "LanternState$Image" "kept" "Z" ∈ gw := gw_t2 190 rfl rfl
theorem kw431 : Cond.fieldLink "LanternState$Image" 10 "LanternState$Image" "scene" "LLanternState$Scene;" ∈ gw := gw_t2 191 rfl rfl
theorem kw432 : Cond.fieldLink "LanternState" 335 "LanternState$Image" "scene" "LLanternState$Scene;" ∈ gw := gw_t2 192 rfl rfl
theorem kw433 : Cond.fieldLink "LanternState$Image" 19 "LanternState$Image" "state" "LLanternState$State;" ∈ gw := gw_t2 193 rfl rfl
theorem kw434 : Cond.fieldLink "LanternState" 336 "LanternState$Image" "state" "LLanternState$State;" ∈ gw := gw_t2 194 rfl rfl
theorem kw435 : Cond.fieldLink "LanternState$Image" 26 "LanternState$Image" "rule" "LLanternState$Sentence;" ∈ gw := gw_t2 195 rfl rfl
theorem kw436 : Cond.fieldLink "LanternState" 337 "LanternState$Image" "rule" "LLanternState$Sentence;" ∈ gw := gw_t2 196 rfl rfl
theorem kw437 : Cond.lays "LanternState$Image" "LanternState$Image" "kept" "Z" ∈ gw := gw_t2 197 rfl rfl
theorem kw439 : Cond.laysFinal "LanternState$Image" "LanternState$Image" "scene" "LLanternState$Scene;" ∈ gw := gw_t2 199 rfl rfl
theorem kw441 : Cond.laysFinal "LanternState$Image" "LanternState$Image" "state" "LLanternState$State;" ∈ gw := gw_t2 201 rfl rfl
theorem kw443 : Cond.laysFinal "LanternState$Image" "LanternState$Image" "rule" "LLanternState$Sentence;" ∈ gw := gw_t2 203 rfl rfl
theorem kw446 : Cond.fieldLink "LanternState" 10 "LanternState" "tape" "LLanternState$Tape;" ∈ gw := gw_t2 206 rfl rfl
theorem kw447 : Cond.fieldLink "LanternState" 19 "LanternState" "scene" "LLanternState$Scene;" ∈ gw := gw_t2 207 rfl rfl
theorem kw448 : Cond.fieldLink "LanternState" 23 "LanternState" "draftScene" "LLanternState$Scene;" ∈ gw := gw_t2 208 rfl rfl
theorem kw449 : Cond.fieldLink "LanternState" 29 "LanternState" "state" "LLanternState$State;" ∈ gw := gw_t2 209 rfl rfl
theorem kw450 : Cond.fieldLink "LanternState" 33 "LanternState" "trial" "LLanternState$State;" ∈ gw := gw_t2 210 rfl rfl
theorem kw451 : Cond.fieldLink "LanternState" 39 "LanternState" "history" "LLanternState$History;" ∈ gw := gw_t2 211 rfl rfl
theorem kw452 : Cond.fieldLink "LanternState" 46 "LanternState" "rule" "LLanternState$Sentence;" ∈ gw := gw_t2 212 rfl rfl
theorem kw453 : Cond.fieldLink "LanternState" 50 "LanternState" "draftRule" "LLanternState$Sentence;" ∈ gw := gw_t2 213 rfl rfl
theorem kw454 : Cond.fieldLink "LanternState" 56 "LanternState" "pages" "LLanternState$Book;" ∈ gw := gw_t2 214 rfl rfl
theorem kw455 : Cond.fieldLink "LanternState" 63 "LanternState" "search" "LLanternState$Search;" ∈ gw := gw_t2 215 rfl rfl
theorem kw456 : Cond.fieldLink "LanternState" 70 "LanternState" "notice" "LLanternState$Bill;" ∈ gw := gw_t2 216 rfl rfl
theorem kw457 : Cond.fieldLink "LanternState" 76 "LanternState" "images" "[LLanternState$Image;" ∈ gw := gw_t2 217 rfl rfl
theorem kw458 : Cond.fieldLink "LanternState" 80 "LanternState" "toldRow" "[I" ∈ gw := gw_t2 218 rfl rfl
theorem kw459 : Cond.fieldLink "LanternState" 318 "LanternState" "toldAny" "Z" ∈ gw := gw_t2 219 rfl rfl
theorem kw460 : Cond.fieldLink "LanternState" 129 "LanternState" "lastFault" "I" ∈ gw := gw_t2 220 rfl rfl
theorem kw461 : Cond.fieldLink "LanternState" 84 "LanternState" "lastMoved" "I" ∈ gw := gw_t2 221 rfl rfl
theorem kw462 : Cond.fieldLink "LanternState" 88 "LanternState" "lastScratched" "I" ∈ gw := gw_t2 222 rfl rfl
theorem kw463 : Cond.laysFinal "LanternState" "LanternState" "tape" "LLanternState$Tape;" ∈ gw := gw_t2 223 rfl rfl
theorem kw465 : Cond.laysFinal "LanternState" "LanternState" "scene" "LLanternState$Scene;" ∈ gw := gw_t2 225 rfl rfl
theorem kw467 : Cond.laysFinal "LanternState" "LanternState" "draftScene" "LLanternState$Scene;" ∈ gw := gw_t2 227 rfl rfl
theorem kw469 : Cond.laysFinal "LanternState" "LanternState" "state" "LLanternState$State;" ∈ gw := gw_t2 229 rfl rfl
theorem kw471 : Cond.laysFinal "LanternState" "LanternState" "trial" "LLanternState$State;" ∈ gw := gw_t2 231 rfl rfl
theorem kw473 : Cond.laysFinal "LanternState" "LanternState" "history" "LLanternState$History;" ∈ gw := gw_t2 233 rfl rfl
theorem kw475 : Cond.laysFinal "LanternState" "LanternState" "rule" "LLanternState$Sentence;" ∈ gw := gw_t2 235 rfl rfl
theorem kw477 : Cond.laysFinal "LanternState" "LanternState" "draftRule" "LLanternState$Sentence;" ∈ gw := gw_t2 237 rfl rfl
theorem kw479 : Cond.laysFinal "LanternState" "LanternState" "pages" "LLanternState$Book;" ∈ gw := gw_t2 239 rfl rfl
theorem kw481 : Cond.laysFinal "LanternState" "LanternState" "search" "LLanternState$Search;" ∈ gw := gw_t3 1 rfl rfl
theorem kw483 : Cond.laysFinal "LanternState" "LanternState" "notice" "LLanternState$Bill;" ∈ gw := gw_t3 3 rfl rfl
theorem kw485 : Cond.laysFinal "LanternState" "LanternState" "images" "[LLanternState$Image;" ∈ gw := gw_t3 5 rfl rfl
theorem kw487 : Cond.laysFinal "LanternState" "LanternState" "toldRow" "[I" ∈ gw := gw_t3 7 rfl rfl
theorem kw489 : Cond.lays "LanternState" "LanternState" "toldAny" "Z" ∈ gw := gw_t3 9 rfl rfl
theorem kw491 : Cond.lays "LanternState" "LanternState" "lastFault" "I" ∈ gw := gw_t3 11 rfl rfl
theorem kw493 : Cond.lays "LanternState" "LanternState" "lastMoved" "I" ∈ gw := gw_t3 13 rfl rfl
theorem kw495 : Cond.lays "LanternState" "LanternState" "lastScratched" "I" ∈ gw := gw_t3 15 rfl rfl
theorem kw498 : Cond.methodLink "LanternStateLaw" 22 ⟨"LanternState", "feed", "(IIIII)I"⟩ ∈ gw := gw_t3 18 rfl rfl
theorem kw499 : Cond.instanceMethod ⟨"LanternState", "feed", "(IIIII)I"⟩ ∈ gw := gw_t3 19 rfl rfl
theorem kw500 : Cond.selects "LanternState" ⟨"LanternState", "feed", "(IIIII)I"⟩ ⟨"LanternState", "feed", "(IIIII)I"⟩ ∈ gw := gw_t3 20 rfl rfl
theorem kw501 : Cond.code ⟨"LanternState", "feed", "(IIIII)I"⟩ prog_1_method_2_code 6 (some FieldType.int) ∈ gw := gw_t3 21 rfl rfl
theorem kw502 : Cond.methodLink "LanternState" 95 ⟨"LanternState$Tape", "put", "(I)V"⟩ ∈ gw := gw_t3 22 rfl rfl
theorem kw503 : Cond.instanceMethod ⟨"LanternState$Tape", "put", "(I)V"⟩ ∈ gw := gw_t3 23 rfl rfl
theorem kw504 : Cond.selects "LanternState$Tape" ⟨"LanternState$Tape", "put", "(I)V"⟩ ⟨"LanternState$Tape", "put", "(I)V"⟩ ∈ gw := gw_t3 24 rfl rfl
theorem kw505 : Cond.code ⟨"LanternState$Tape", "put", "(I)V"⟩ prog_11_method_2_code 3 none ∈ gw := gw_t3 25 rfl rfl
theorem kw506 : Cond.methodLink "LanternStateLaw" 27 ⟨"LanternState", "end", "(I)Z"⟩ ∈ gw := gw_t3 26 rfl rfl
theorem kw507 : Cond.instanceMethod ⟨"LanternState", "end", "(I)Z"⟩ ∈ gw := gw_t3 27 rfl rfl
theorem kw508 : Cond.selects "LanternState" ⟨"LanternState", "end", "(I)Z"⟩ ⟨"LanternState", "end", "(I)Z"⟩ ∈ gw := gw_t3 28 rfl rfl
theorem kw509 : Cond.code ⟨"LanternState", "end", "(I)Z"⟩ prog_1_method_3_code 2 (some FieldType.boolean) ∈ gw := gw_t3 29 rfl rfl
theorem kw510 : Cond.methodLink "LanternStateLaw" 32 ⟨"LanternState", "session", "()I"⟩ ∈ gw := gw_t3 30 rfl rfl
theorem kw511 : Cond.instanceMethod ⟨"LanternState", "session", "()I"⟩ ∈ gw := gw_t3 31 rfl rfl
theorem kw512 : Cond.selects "LanternState" ⟨"LanternState", "session", "()I"⟩ ⟨"LanternState", "session", "()I"⟩ ∈ gw := gw_t3 32 rfl rfl
theorem kw513 : Cond.code ⟨"LanternState", "session", "()I"⟩ prog_1_method_4_code 2 (some FieldType.int) ∈ gw := gw_t3 33 rfl rfl
theorem kw514 : Cond.methodLink "LanternState" 99 ⟨"LanternState$Tape", "open", "(I)V"⟩ ∈ gw := gw_t3 34 rfl rfl
theorem kw515 : Cond.instanceMethod ⟨"LanternState$Tape", "open", "(I)V"⟩ ∈ gw := gw_t3 35 rfl rfl
theorem kw516 : Cond.selects "LanternState$Tape" ⟨"LanternState$Tape", "open", "(I)V"⟩ ⟨"LanternState$Tape", "open", "(I)V"⟩ ∈ gw := gw_t3 36 rfl rfl
theorem kw517 : Cond.code ⟨"LanternState$Tape", "open", "(I)V"⟩ prog_11_method_5_code 2 none ∈ gw := gw_t3 37 rfl rfl
theorem kw518 : Cond.methodLink "LanternState" 102 ⟨"LanternState$Scene", "read", "(LLanternState$Tape;)Z"⟩ ∈ gw := gw_t3 38 rfl rfl
theorem kw519 : Cond.instanceMethod ⟨"LanternState$Scene", "read", "(LLanternState$Tape;)Z"⟩ ∈ gw := gw_t3 39 rfl rfl
theorem kw520 : Cond.selects "LanternState$Scene" ⟨"LanternState$Scene", "read", "(LLanternState$Tape;)Z"⟩ ⟨"LanternState$Scene", "read", "(LLanternState$Tape;)Z"⟩ ∈ gw := gw_t3 40 rfl rfl
theorem kw521 : Cond.code ⟨"LanternState$Scene", "read", "(LLanternState$Tape;)Z"⟩ prog_7_method_4_code 2 (some FieldType.boolean) ∈ gw := gw_t3 41 rfl rfl
theorem kw522 : Cond.methodLink "LanternState$Scene" 74 ⟨"LanternState$Scene", "clear", "()V"⟩ ∈ gw := gw_t3 42 rfl rfl
theorem kw524 : Cond.instanceMethod ⟨"LanternState$Scene", "clear", "()V"⟩ ∈ gw := gw_t3 44 rfl rfl
theorem kw525 : Cond.code ⟨"LanternState$Scene", "clear", "()V"⟩ prog_7_method_2_code 1 none ∈ gw := gw_t3 45 rfl rfl
theorem kw526 : Cond.methodLink "LanternState$Scene" 77 ⟨"LanternState$Tape", "next", "()V"⟩ ∈ gw := gw_t3 46 rfl rfl
theorem kw527 : Cond.instanceMethod ⟨"LanternState$Tape", "next", "()V"⟩ ∈ gw := gw_t3 47 rfl rfl
theorem kw528 : Cond.selects "LanternState$Tape" ⟨"LanternState$Tape", "next", "()V"⟩ ⟨"LanternState$Tape", "next", "()V"⟩ ∈ gw := gw_t3 48 rfl rfl
theorem kw529 : Cond.code ⟨"LanternState$Tape", "next", "()V"⟩ prog_11_method_7_code 2 none ∈ gw := gw_t3 49 rfl rfl
theorem kw530 : Cond.methodLink "LanternState$Tape" 37 ⟨"LanternState$Tape", "at", "(I)I"⟩ ∈ gw := gw_t3 50 rfl rfl
theorem kw532 : Cond.instanceMethod ⟨"LanternState$Tape", "at", "(I)I"⟩ ∈ gw := gw_t3 52 rfl rfl
theorem kw533 : Cond.code ⟨"LanternState$Tape", "at", "(I)I"⟩ prog_11_method_4_code 2 (some FieldType.int) ∈ gw := gw_t3 53 rfl rfl
theorem kw534 : Cond.methodLink "LanternState$Tape" 75 ⟨"LanternState$Tape", "readRun", "()V"⟩ ∈ gw := gw_t3 54 rfl rfl
theorem kw536 : Cond.instanceMethod ⟨"LanternState$Tape", "readRun", "()V"⟩ ∈ gw := gw_t3 56 rfl rfl
theorem kw537 : Cond.code ⟨"LanternState$Tape", "readRun", "()V"⟩ prog_11_method_8_code 5 none ∈ gw := gw_t3 57 rfl rfl
theorem kw538 : Cond.methodLink "LanternState$Scene" 85 ⟨"LanternState$Scene", "readLine", "(LLanternState$Tape;)Z"⟩ ∈ gw := gw_t3 58 rfl rfl
theorem kw540 : Cond.instanceMethod ⟨"LanternState$Scene", "readLine", "(LLanternState$Tape;)Z"⟩ ∈ gw := gw_t3 60 rfl rfl
theorem kw541 : Cond.code ⟨"LanternState$Scene", "readLine", "(LLanternState$Tape;)Z"⟩ prog_7_method_5_code 2 (some FieldType.boolean) ∈ gw := gw_t3 61 rfl rfl
theorem kw542 : Cond.methodLink "LanternState$Scene" 96 ⟨"LanternState$Scene", "readSlide", "(LLanternState$Tape;)Z"⟩ ∈ gw := gw_t3 62 rfl rfl
theorem kw544 : Cond.instanceMethod ⟨"LanternState$Scene", "readSlide", "(LLanternState$Tape;)Z"⟩ ∈ gw := gw_t3 64 rfl rfl
theorem kw545 : Cond.code ⟨"LanternState$Scene", "readSlide", "(LLanternState$Tape;)Z"⟩ prog_7_method_6_code 4 (some FieldType.boolean) ∈ gw := gw_t3 65 rfl rfl
theorem kw546 : Cond.methodLink "LanternState$Scene" 116 ⟨"LanternState$Tape", "fail", "(I)Z"⟩ ∈ gw := gw_t3 66 rfl rfl
theorem kw547 : Cond.instanceMethod ⟨"LanternState$Tape", "fail", "(I)Z"⟩ ∈ gw := gw_t3 67 rfl rfl
theorem kw548 : Cond.selects "LanternState$Tape" ⟨"LanternState$Tape", "fail", "(I)Z"⟩ ⟨"LanternState$Tape", "fail", "(I)Z"⟩ ∈ gw := gw_t3 68 rfl rfl
theorem kw549 : Cond.code ⟨"LanternState$Tape", "fail", "(I)Z"⟩ prog_11_method_6_code 2 (some FieldType.boolean) ∈ gw := gw_t3 69 rfl rfl
theorem kw550 : Cond.methodLink "LanternState$Scene" 120 ⟨"LanternState$Tape", "takeName", "()Z"⟩ ∈ gw := gw_t3 70 rfl rfl
theorem kw551 : Cond.instanceMethod ⟨"LanternState$Tape", "takeName", "()Z"⟩ ∈ gw := gw_t3 71 rfl rfl
theorem kw552 : Cond.selects "LanternState$Tape" ⟨"LanternState$Tape", "takeName", "()Z"⟩ ⟨"LanternState$Tape", "takeName", "()Z"⟩ ∈ gw := gw_t3 72 rfl rfl
theorem kw553 : Cond.code ⟨"LanternState$Tape", "takeName", "()Z"⟩ prog_11_method_11_code 1 (some FieldType.boolean) ∈ gw := gw_t3 73 rfl rfl
theorem kw554 : Cond.methodLink "LanternState$Tape" 78 ⟨"LanternState$Tape", "next", "()V"⟩ ∈ gw := gw_t3 74 rfl rfl
theorem kw555 : Cond.methodLink "LanternState$Tape" 81 ⟨"LanternState$Tape", "fail", "(I)Z"⟩ ∈ gw := gw_t3 75 rfl rfl
theorem kw556 : Cond.methodLink "LanternState$Scene" 127 ⟨"LanternState$Scene", "isTold", "(J)Z"⟩ ∈ gw := gw_t3 76 rfl rfl
theorem kw558 : Cond.instanceMethod ⟨"LanternState$Scene", "isTold", "(J)Z"⟩ ∈ gw := gw_t3 78 rfl rfl
theorem kw559 : Cond.code ⟨"LanternState$Scene", "isTold", "(J)Z"⟩ prog_7_method_12_code 3 (some FieldType.boolean) ∈ gw := gw_t3 79 rfl rfl
theorem kw560 : Cond.methodLink "LanternState$Scene" 157 ⟨"LanternState$Scene", "findSlide", "(J)I"⟩ ∈ gw := gw_t3 80 rfl rfl
theorem kw561 : Cond.instanceMethod ⟨"LanternState$Scene", "findSlide", "(J)I"⟩ ∈ gw := gw_t3 81 rfl rfl
theorem kw562 : Cond.selects "LanternState$Scene" ⟨"LanternState$Scene", "findSlide", "(J)I"⟩ ⟨"LanternState$Scene", "findSlide", "(J)I"⟩ ∈ gw := gw_t3 82 rfl rfl
theorem kw563 : Cond.code ⟨"LanternState$Scene", "findSlide", "(J)I"⟩ prog_7_method_15_code 4 (some FieldType.int) ∈ gw := gw_t3 83 rfl rfl
theorem kw564 : Cond.methodLink "LanternState$Scene" 161 ⟨"LanternState$Scene", "findHearer", "(J)I"⟩ ∈ gw := gw_t3 84 rfl rfl
theorem kw565 : Cond.instanceMethod ⟨"LanternState$Scene", "findHearer", "(J)I"⟩ ∈ gw := gw_t3 85 rfl rfl
theorem kw566 : Cond.selects "LanternState$Scene" ⟨"LanternState$Scene", "findHearer", "(J)I"⟩ ⟨"LanternState$Scene", "findHearer", "(J)I"⟩ ∈ gw := gw_t3 86 rfl rfl
theorem kw567 : Cond.code ⟨"LanternState$Scene", "findHearer", "(J)I"⟩ prog_7_method_16_code 4 (some FieldType.int) ∈ gw := gw_t3 87 rfl rfl
theorem kw568 : Cond.methodLink "LanternState$Scene" 131 ⟨"LanternState$Tape", "takeNumber", "(II)Z"⟩ ∈ gw := gw_t3 88 rfl rfl
theorem kw569 : Cond.instanceMethod ⟨"LanternState$Tape", "takeNumber", "(II)Z"⟩ ∈ gw := gw_t3 89 rfl rfl
theorem kw570 : Cond.selects "LanternState$Tape" ⟨"LanternState$Tape", "takeNumber", "(II)Z"⟩ ⟨"LanternState$Tape", "takeNumber", "(II)Z"⟩ ∈ gw := gw_t3 90 rfl rfl
theorem kw571 : Cond.code ⟨"LanternState$Tape", "takeNumber", "(II)Z"⟩ prog_11_method_10_code 3 (some FieldType.boolean) ∈ gw := gw_t3 91 rfl rfl
theorem kw572 : Cond.methodLink "LanternState$Scene" 138 ⟨"LanternState$Picture", "ofRow", "(II)I"⟩ ∈ gw := gw_t3 92 rfl rfl
theorem kw573 : Cond.static ⟨"LanternState$Picture", "ofRow", "(II)I"⟩ ∈ gw := gw_t3 93 rfl rfl
theorem kw574 : Cond.code ⟨"LanternState$Picture", "ofRow", "(II)I"⟩ prog_6_method_3_code 2 (some FieldType.int) ∈ gw := gw_t3 94 rfl rfl
theorem kw575 : Cond.methodLink "LanternState$Picture" 9 ⟨"LanternState$Picture", "mirror", "(I)I"⟩ ∈ gw := gw_t3 95 rfl rfl
theorem kw576 : Cond.static ⟨"LanternState$Picture", "mirror", "(I)I"⟩ ∈ gw := gw_t3 96 rfl rfl
theorem kw577 : Cond.code ⟨"LanternState$Picture", "mirror", "(I)I"⟩ prog_6_method_5_code 1 (some FieldType.int) ∈ gw := gw_t3 97 rfl rfl
theorem kw578 : Cond.constant "LanternState$Picture" 15 (34952) ∈ gw := gw_t3 98 rfl rfl
theorem kw579 : Cond.methodLink "LanternState$Scene" 99 ⟨"LanternState$Scene", "readHearer", "(LLanternState$Tape;)Z"⟩ ∈ gw := gw_t3 99 rfl rfl
theorem kw581 : Cond.instanceMethod ⟨"LanternState$Scene", "readHearer", "(LLanternState$Tape;)Z"⟩ ∈ gw := gw_t3 101 rfl rfl
theorem kw582 : Cond.code ⟨"LanternState$Scene", "readHearer", "(LLanternState$Tape;)Z"⟩ prog_7_method_7_code 2 (some FieldType.boolean) ∈ gw := gw_t3 102 rfl rfl
theorem kw583 : Cond.methodLink "LanternState$Scene" 144 ⟨"LanternState$Tape", "takeSeat", "()Z"⟩ ∈ gw := gw_t3 103 rfl rfl
theorem kw584 : Cond.instanceMethod ⟨"LanternState$Tape", "takeSeat", "()Z"⟩ ∈ gw := gw_t3 104 rfl rfl
theorem kw585 : Cond.selects "LanternState$Tape" ⟨"LanternState$Tape", "takeSeat", "()Z"⟩ ⟨"LanternState$Tape", "takeSeat", "()Z"⟩ ∈ gw := gw_t3 105 rfl rfl
theorem kw586 : Cond.code ⟨"LanternState$Tape", "takeSeat", "()Z"⟩ prog_11_method_13_code 1 (some FieldType.boolean) ∈ gw := gw_t3 106 rfl rfl
theorem kw587 : Cond.methodLink "LanternState$Scene" 102 ⟨"LanternState$Scene", "readCell", "(LLanternState$Tape;[I)Z"⟩ ∈ gw := gw_t3 107 rfl rfl
theorem kw589 : Cond.instanceMethod ⟨"LanternState$Scene", "readCell", "(LLanternState$Tape;[I)Z"⟩ ∈ gw := gw_t3 109 rfl rfl
theorem kw590 : Cond.code ⟨"LanternState$Scene", "readCell", "(LLanternState$Tape;[I)Z"⟩ prog_7_method_8_code 6 (some FieldType.boolean) ∈ gw := gw_t3 110 rfl rfl
theorem kw591 : Cond.methodLink "LanternState$Scene" 147 ⟨"LanternState$Scene", "takeHearer", "(LLanternState$Tape;)I"⟩ ∈ gw := gw_t3 111 rfl rfl
theorem kw593 : Cond.instanceMethod ⟨"LanternState$Scene", "takeHearer", "(LLanternState$Tape;)I"⟩ ∈ gw := gw_t3 113 rfl rfl
theorem kw594 : Cond.code ⟨"LanternState$Scene", "takeHearer", "(LLanternState$Tape;)I"⟩ prog_7_method_14_code 3 (some FieldType.int) ∈ gw := gw_t3 114 rfl rfl
theorem kw595 : Cond.methodLink "LanternState$Scene" 151 ⟨"LanternState$Picture", "cell", "(II)I"⟩ ∈ gw := gw_t3 115 rfl rfl
theorem kw596 : Cond.static ⟨"LanternState$Picture", "cell", "(II)I"⟩ ∈ gw := gw_t3 116 rfl rfl
theorem kw597 : Cond.code ⟨"LanternState$Picture", "cell", "(II)I"⟩ prog_6_method_2_code 2 (some FieldType.int) ∈ gw := gw_t3 117 rfl rfl
theorem kw598 : Cond.methodLink "LanternState$Scene" 106 ⟨"LanternState$Scene", "readNear", "(LLanternState$Tape;)Z"⟩ ∈ gw := gw_t3 118 rfl rfl
theorem kw600 : Cond.instanceMethod ⟨"LanternState$Scene", "readNear", "(LLanternState$Tape;)Z"⟩ ∈ gw := gw_t3 120 rfl rfl
theorem kw601 : Cond.code ⟨"LanternState$Scene", "readNear", "(LLanternState$Tape;)Z"⟩ prog_7_method_9_code 4 (some FieldType.boolean) ∈ gw := gw_t3 121 rfl rfl
theorem kw602 : Cond.methodLink "LanternState$Scene" 109 ⟨"LanternState$Scene", "readAfter", "(LLanternState$Tape;)Z"⟩ ∈ gw := gw_t3 122 rfl rfl
theorem kw604 : Cond.instanceMethod ⟨"LanternState$Scene", "readAfter", "(LLanternState$Tape;)Z"⟩ ∈ gw := gw_t3 124 rfl rfl
theorem kw605 : Cond.code ⟨"LanternState$Scene", "readAfter", "(LLanternState$Tape;)Z"⟩ prog_7_method_10_code 4 (some FieldType.boolean) ∈ gw := gw_t3 125 rfl rfl
theorem kw606 : Cond.methodLink "LanternState$Scene" 154 ⟨"LanternState$Scene", "takeSlide", "(LLanternState$Tape;)I"⟩ ∈ gw := gw_t3 126 rfl rfl
theorem kw607 : Cond.instanceMethod ⟨"LanternState$Scene", "takeSlide", "(LLanternState$Tape;)I"⟩ ∈ gw := gw_t3 127 rfl rfl
theorem kw608 : Cond.selects "LanternState$Scene" ⟨"LanternState$Scene", "takeSlide", "(LLanternState$Tape;)I"⟩ ⟨"LanternState$Scene", "takeSlide", "(LLanternState$Tape;)I"⟩ ∈ gw := gw_t3 128 rfl rfl
theorem kw609 : Cond.code ⟨"LanternState$Scene", "takeSlide", "(LLanternState$Tape;)I"⟩ prog_7_method_13_code 3 (some FieldType.int) ∈ gw := gw_t3 129 rfl rfl
theorem kw610 : Cond.methodLink "LanternState$Scene" 112 ⟨"LanternState$Scene", "readSetting", "(LLanternState$Tape;III)Z"⟩ ∈ gw := gw_t3 130 rfl rfl
theorem kw612 : Cond.instanceMethod ⟨"LanternState$Scene", "readSetting", "(LLanternState$Tape;III)Z"⟩ ∈ gw := gw_t3 132 rfl rfl
theorem kw613 : Cond.code ⟨"LanternState$Scene", "readSetting", "(LLanternState$Tape;III)Z"⟩ prog_7_method_11_code 5 (some FieldType.boolean) ∈ gw := gw_t3 133 rfl rfl
theorem kw614 : Cond.methodLink "LanternState$Scene" 89 ⟨"LanternState$Tape", "takeLineEnd", "()Z"⟩ ∈ gw := gw_t3 134 rfl rfl
theorem kw615 : Cond.instanceMethod ⟨"LanternState$Tape", "takeLineEnd", "()Z"⟩ ∈ gw := gw_t3 135 rfl rfl
theorem kw616 : Cond.selects "LanternState$Tape" ⟨"LanternState$Tape", "takeLineEnd", "()Z"⟩ ⟨"LanternState$Tape", "takeLineEnd", "()Z"⟩ ∈ gw := gw_t3 136 rfl rfl
theorem kw617 : Cond.code ⟨"LanternState$Tape", "takeLineEnd", "()Z"⟩ prog_11_method_14_code 1 (some FieldType.boolean) ∈ gw := gw_t3 137 rfl rfl
theorem kw618 : Cond.methodLink "LanternState$Tape" 85 ⟨"LanternState$Tape", "isSign", "(I)Z"⟩ ∈ gw := gw_t3 138 rfl rfl
theorem kw619 : Cond.instanceMethod ⟨"LanternState$Tape", "isSign", "(I)Z"⟩ ∈ gw := gw_t3 139 rfl rfl
theorem kw620 : Cond.selects "LanternState$Tape" ⟨"LanternState$Tape", "isSign", "(I)Z"⟩ ⟨"LanternState$Tape", "isSign", "(I)Z"⟩ ∈ gw := gw_t3 140 rfl rfl
theorem kw621 : Cond.code ⟨"LanternState$Tape", "isSign", "(I)Z"⟩ prog_11_method_9_code 2 (some FieldType.boolean) ∈ gw := gw_t3 141 rfl rfl
theorem kw622 : Cond.methodLink "LanternState" 106 ⟨"LanternState", "closeText", "()V"⟩ ∈ gw := gw_t3 142 rfl rfl
theorem kw624 : Cond.instanceMethod ⟨"LanternState", "closeText", "()V"⟩ ∈ gw := gw_t3 144 rfl rfl
theorem kw625 : Cond.code ⟨"LanternState", "closeText", "()V"⟩ prog_1_method_48_code 1 none ∈ gw := gw_t3 145 rfl rfl
theorem kw626 : Cond.methodLink "LanternState" 112 ⟨"LanternState$Scene", "copyFrom", "(LLanternState$Scene;)V"⟩ ∈ gw := gw_t3 146 rfl rfl
theorem kw627 : Cond.instanceMethod ⟨"LanternState$Scene", "copyFrom", "(LLanternState$Scene;)V"⟩ ∈ gw := gw_t3 147 rfl rfl
theorem kw628 : Cond.selects "LanternState$Scene" ⟨"LanternState$Scene", "copyFrom", "(LLanternState$Scene;)V"⟩ ⟨"LanternState$Scene", "copyFrom", "(LLanternState$Scene;)V"⟩ ∈ gw := gw_t3 148 rfl rfl
theorem kw629 : Cond.code ⟨"LanternState$Scene", "copyFrom", "(LLanternState$Scene;)V"⟩ prog_7_method_3_code 2 none ∈ gw := gw_t3 149 rfl rfl
theorem kw630 : Cond.methodLink "LanternState$Scene" 68 ⟨"java/lang/System", "arraycopy", "(Ljava/lang/Object;ILjava/lang/Object;II)V"⟩ ∈ gw := gw_t3 150 rfl rfl
theorem kw631 : Cond.static ⟨"java/lang/System", "arraycopy", "(Ljava/lang/Object;ILjava/lang/Object;II)V"⟩ ∈ gw := gw_t3 151 rfl rfl
theorem kw632 : Cond.native ⟨"java/lang/System", "arraycopy", "(Ljava/lang/Object;ILjava/lang/Object;II)V"⟩ ∈ gw := gw_t3 152 rfl rfl
theorem kw633 : Cond.methodLink "LanternState" 116 ⟨"LanternState$State", "begin", "(LLanternState$Scene;)V"⟩ ∈ gw := gw_t3 153 rfl rfl
theorem kw634 : Cond.instanceMethod ⟨"LanternState$State", "begin", "(LLanternState$Scene;)V"⟩ ∈ gw := gw_t3 154 rfl rfl
theorem kw635 : Cond.selects "LanternState$State" ⟨"LanternState$State", "begin", "(LLanternState$Scene;)V"⟩ ⟨"LanternState$State", "begin", "(LLanternState$Scene;)V"⟩ ∈ gw := gw_t3 155 rfl rfl
theorem kw636 : Cond.code ⟨"LanternState$State", "begin", "(LLanternState$Scene;)V"⟩ prog_10_method_2_code 3 none ∈ gw := gw_t3 156 rfl rfl
theorem kw637 : Cond.methodLink "LanternState" 123 ⟨"LanternState$History", "clear", "()V"⟩ ∈ gw := gw_t3 157 rfl rfl
theorem kw638 : Cond.instanceMethod ⟨"LanternState$History", "clear", "()V"⟩ ∈ gw := gw_t3 158 rfl rfl
theorem kw639 : Cond.selects "LanternState$History" ⟨"LanternState$History", "clear", "()V"⟩ ⟨"LanternState$History", "clear", "()V"⟩ ∈ gw := gw_t3 159 rfl rfl
theorem kw640 : Cond.code ⟨"LanternState$History", "clear", "()V"⟩ prog_4_method_2_code 1 none ∈ gw := gw_t3 160 rfl rfl
theorem kw641 : Cond.methodLink "LanternStateLaw" 37 ⟨"LanternState", "fault", "()I"⟩ ∈ gw := gw_t3 161 rfl rfl
theorem kw642 : Cond.instanceMethod ⟨"LanternState", "fault", "()I"⟩ ∈ gw := gw_t3 162 rfl rfl
theorem kw643 : Cond.selects "LanternState" ⟨"LanternState", "fault", "()I"⟩ ⟨"LanternState", "fault", "()I"⟩ ∈ gw := gw_t3 163 rfl rfl
theorem kw644 : Cond.code ⟨"LanternState", "fault", "()I"⟩ prog_1_method_5_code 1 (some FieldType.int) ∈ gw := gw_t3 164 rfl rfl
theorem kw645 : Cond.methodLink "LanternStateLaw" 50 ⟨"LanternState", "row", "(IIII)I"⟩ ∈ gw := gw_t3 165 rfl rfl
theorem kw646 : Cond.instanceMethod ⟨"LanternState", "row", "(IIII)I"⟩ ∈ gw := gw_t3 166 rfl rfl
theorem kw647 : Cond.selects "LanternState" ⟨"LanternState", "row", "(IIII)I"⟩ ⟨"LanternState", "row", "(IIII)I"⟩ ∈ gw := gw_t3 167 rfl rfl
theorem kw648 : Cond.code ⟨"LanternState", "row", "(IIII)I"⟩ prog_1_method_7_code 6 (some FieldType.int) ∈ gw := gw_t3 168 rfl rfl
theorem kw649 : Cond.methodLink "LanternState" 132 ⟨"LanternState", "isSlide", "(I)Z"⟩ ∈ gw := gw_t3 169 rfl rfl
theorem kw651 : Cond.instanceMethod ⟨"LanternState", "isSlide", "(I)Z"⟩ ∈ gw := gw_t3 171 rfl rfl
theorem kw652 : Cond.code ⟨"LanternState", "isSlide", "(I)Z"⟩ prog_1_method_41_code 2 (some FieldType.boolean) ∈ gw := gw_t3 172 rfl rfl
theorem kw653 : Cond.methodLink "LanternState" 173 ⟨"LanternState", "isWay", "(I)Z"⟩ ∈ gw := gw_t3 173 rfl rfl
theorem kw654 : Cond.static ⟨"LanternState", "isWay", "(I)Z"⟩ ∈ gw := gw_t3 174 rfl rfl
theorem kw655 : Cond.code ⟨"LanternState", "isWay", "(I)Z"⟩ prog_1_method_43_code 1 (some FieldType.boolean) ∈ gw := gw_t3 175 rfl rfl
theorem kw656 : Cond.methodLink "LanternState" 176 ⟨"LanternState", "isSeat", "(I)Z"⟩ ∈ gw := gw_t3 176 rfl rfl
theorem kw657 : Cond.static ⟨"LanternState", "isSeat", "(I)Z"⟩ ∈ gw := gw_t3 177 rfl rfl
theorem kw658 : Cond.code ⟨"LanternState", "isSeat", "(I)Z"⟩ prog_1_method_45_code 1 (some FieldType.boolean) ∈ gw := gw_t3 178 rfl rfl
theorem kw659 : Cond.methodLink "LanternState" 179 ⟨"LanternState", "isPlace", "(I)Z"⟩ ∈ gw := gw_t3 179 rfl rfl
theorem kw660 : Cond.static ⟨"LanternState", "isPlace", "(I)Z"⟩ ∈ gw := gw_t3 180 rfl rfl
theorem kw661 : Cond.code ⟨"LanternState", "isPlace", "(I)Z"⟩ prog_1_method_44_code 1 (some FieldType.boolean) ∈ gw := gw_t3 181 rfl rfl
theorem kw662 : Cond.methodLink "LanternState" 182 ⟨"LanternState$Picture", "turn", "(II)I"⟩ ∈ gw := gw_t3 182 rfl rfl
theorem kw663 : Cond.static ⟨"LanternState$Picture", "turn", "(II)I"⟩ ∈ gw := gw_t3 183 rfl rfl
theorem kw664 : Cond.code ⟨"LanternState$Picture", "turn", "(II)I"⟩ prog_6_method_7_code 2 (some FieldType.int) ∈ gw := gw_t3 184 rfl rfl
theorem kw665 : Cond.methodLink "LanternState$Picture" 17 ⟨"LanternState$Picture", "flip", "(I)I"⟩ ∈ gw := gw_t3 185 rfl rfl
theorem kw666 : Cond.static ⟨"LanternState$Picture", "flip", "(I)I"⟩ ∈ gw := gw_t3 186 rfl rfl
theorem kw667 : Cond.code ⟨"LanternState$Picture", "flip", "(I)I"⟩ prog_6_method_6_code 1 (some FieldType.int) ∈ gw := gw_t3 187 rfl rfl
theorem kw668 : Cond.constant "LanternState$Picture" 16 (61440) ∈ gw := gw_t3 188 rfl rfl
theorem kw669 : Cond.methodLink "LanternState" 185 ⟨"LanternState$Picture", "mirror", "(I)I"⟩ ∈ gw := gw_t3 189 rfl rfl
theorem kw670 : Cond.methodLink "LanternState" 167 ⟨"LanternState$Picture", "rowOf", "(II)I"⟩ ∈ gw := gw_t3 190 rfl rfl
theorem kw671 : Cond.static ⟨"LanternState$Picture", "rowOf", "(II)I"⟩ ∈ gw := gw_t3 191 rfl rfl
theorem kw672 : Cond.code ⟨"LanternState$Picture", "rowOf", "(II)I"⟩ prog_6_method_4_code 2 (some FieldType.int) ∈ gw := gw_t3 192 rfl rfl
theorem kw673 : Cond.methodLink "LanternStateLaw" 58 ⟨"LanternState", "thinks", "(III)I"⟩ ∈ gw := gw_t3 193 rfl rfl
theorem kw674 : Cond.instanceMethod ⟨"LanternState", "thinks", "(III)I"⟩ ∈ gw := gw_t3 194 rfl rfl
theorem kw675 : Cond.selects "LanternState" ⟨"LanternState", "thinks", "(III)I"⟩ ⟨"LanternState", "thinks", "(III)I"⟩ ∈ gw := gw_t3 195 rfl rfl
theorem kw676 : Cond.code ⟨"LanternState", "thinks", "(III)I"⟩ prog_1_method_9_code 5 (some FieldType.int) ∈ gw := gw_t3 196 rfl rfl
theorem kw677 : Cond.methodLink "LanternState" 188 ⟨"LanternState", "isHearer", "(I)Z"⟩ ∈ gw := gw_t3 197 rfl rfl
theorem kw679 : Cond.instanceMethod ⟨"LanternState", "isHearer", "(I)Z"⟩ ∈ gw := gw_t3 199 rfl rfl
theorem kw680 : Cond.code ⟨"LanternState", "isHearer", "(I)Z"⟩ prog_1_method_42_code 2 (some FieldType.boolean) ∈ gw := gw_t3 200 rfl rfl
theorem kw681 : Cond.methodLink "LanternState" 211 ⟨"LanternState$Picture", "cell", "(II)I"⟩ ∈ gw := gw_t3 201 rfl rfl
theorem kw682 : Cond.methodLink "LanternStateLaw" 63 ⟨"LanternState", "now", "(I)I"⟩ ∈ gw := gw_t3 202 rfl rfl
theorem kw683 : Cond.instanceMethod ⟨"LanternState", "now", "(I)I"⟩ ∈ gw := gw_t3 203 rfl rfl
theorem kw684 : Cond.selects "LanternState" ⟨"LanternState", "now", "(I)I"⟩ ⟨"LanternState", "now", "(I)I"⟩ ∈ gw := gw_t3 204 rfl rfl
theorem kw685 : Cond.code ⟨"LanternState", "now", "(I)I"⟩ prog_1_method_10_code 2 (some FieldType.int) ∈ gw := gw_t3 205 rfl rfl
theorem kw686 : Cond.methodLink "LanternStateLaw" 68 ⟨"LanternState", "show", "(II)I"⟩ ∈ gw := gw_t3 206 rfl rfl
theorem kw687 : Cond.instanceMethod ⟨"LanternState", "show", "(II)I"⟩ ∈ gw := gw_t3 207 rfl rfl
theorem kw688 : Cond.selects "LanternState" ⟨"LanternState", "show", "(II)I"⟩ ⟨"LanternState", "show", "(II)I"⟩ ∈ gw := gw_t3 208 rfl rfl
theorem kw689 : Cond.code ⟨"LanternState", "show", "(II)I"⟩ prog_1_method_11_code 3 (some FieldType.int) ∈ gw := gw_t3 209 rfl rfl
theorem kw690 : Cond.methodLink "LanternState" 226 ⟨"LanternState$State", "copyFrom", "(LLanternState$State;)V"⟩ ∈ gw := gw_t3 210 rfl rfl
theorem kw691 : Cond.instanceMethod ⟨"LanternState$State", "copyFrom", "(LLanternState$State;)V"⟩ ∈ gw := gw_t3 211 rfl rfl
theorem kw692 : Cond.selects "LanternState$State" ⟨"LanternState$State", "copyFrom", "(LLanternState$State;)V"⟩ ⟨"LanternState$State", "copyFrom", "(LLanternState$State;)V"⟩ ∈ gw := gw_t3 212 rfl rfl
theorem kw693 : Cond.code ⟨"LanternState$State", "copyFrom", "(LLanternState$State;)V"⟩ prog_10_method_3_code 2 none ∈ gw := gw_t3 213 rfl rfl
theorem kw694 : Cond.methodLink "LanternState$State" 48 ⟨"java/lang/System", "arraycopy", "(Ljava/lang/Object;ILjava/lang/Object;II)V"⟩ ∈ gw := gw_t3 214 rfl rfl
theorem kw695 : Cond.methodLink "LanternState" 229 ⟨"LanternState$State", "showOne", "(LLanternState$Scene;II)I"⟩ ∈ gw := gw_t3 215 rfl rfl
theorem kw696 : Cond.instanceMethod ⟨"LanternState$State", "showOne", "(LLanternState$Scene;II)I"⟩ ∈ gw := gw_t3 216 rfl rfl
theorem kw697 : Cond.selects "LanternState$State" ⟨"LanternState$State", "showOne", "(LLanternState$Scene;II)I"⟩ ⟨"LanternState$State", "showOne", "(LLanternState$Scene;II)I"⟩ ∈ gw := gw_t3 217 rfl rfl
theorem kw698 : Cond.code ⟨"LanternState$State", "showOne", "(LLanternState$Scene;II)I"⟩ prog_10_method_4_code 5 (some FieldType.int) ∈ gw := gw_t3 218 rfl rfl
theorem kw699 : Cond.methodLink "LanternState$State" 54 ⟨"LanternState$State", "whyNotShow", "(LLanternState$Scene;I)I"⟩ ∈ gw := gw_t3 219 rfl rfl
theorem kw701 : Cond.instanceMethod ⟨"LanternState$State", "whyNotShow", "(LLanternState$Scene;I)I"⟩ ∈ gw := gw_t3 221 rfl rfl
theorem kw702 : Cond.code ⟨"LanternState$State", "whyNotShow", "(LLanternState$Scene;I)I"⟩ prog_10_method_6_code 4 (some FieldType.int) ∈ gw := gw_t3 222 rfl rfl
theorem kw703 : Cond.methodLink "LanternState$State" 71 ⟨"LanternState$State", "waitsFor", "(LLanternState$Scene;I)I"⟩ ∈ gw := gw_t3 223 rfl rfl
theorem kw704 : Cond.instanceMethod ⟨"LanternState$State", "waitsFor", "(LLanternState$Scene;I)I"⟩ ∈ gw := gw_t3 224 rfl rfl
theorem kw705 : Cond.selects "LanternState$State" ⟨"LanternState$State", "waitsFor", "(LLanternState$Scene;I)I"⟩ ⟨"LanternState$State", "waitsFor", "(LLanternState$Scene;I)I"⟩ ∈ gw := gw_t3 225 rfl rfl
theorem kw706 : Cond.code ⟨"LanternState$State", "waitsFor", "(LLanternState$Scene;I)I"⟩ prog_10_method_7_code 4 (some FieldType.int) ∈ gw := gw_t3 226 rfl rfl
theorem kw707 : Cond.methodLink "LanternState$State" 58 ⟨"LanternState$Picture", "turn", "(II)I"⟩ ∈ gw := gw_t3 227 rfl rfl
theorem kw708 : Cond.methodLink "LanternState$State" 64 ⟨"LanternState$State", "project", "(LLanternState$Scene;II)I"⟩ ∈ gw := gw_t3 228 rfl rfl
theorem kw710 : Cond.instanceMethod ⟨"LanternState$State", "project", "(LLanternState$Scene;II)I"⟩ ∈ gw := gw_t3 230 rfl rfl
theorem kw711 : Cond.code ⟨"LanternState$State", "project", "(LLanternState$Scene;II)I"⟩ prog_10_method_8_code 6 (some FieldType.int) ∈ gw := gw_t3 231 rfl rfl
theorem kw712 : Cond.methodLink "LanternState$State" 83 ⟨"LanternState$Scene", "sighers", "(II)I"⟩ ∈ gw := gw_t3 232 rfl rfl
theorem kw713 : Cond.instanceMethod ⟨"LanternState$Scene", "sighers", "(II)I"⟩ ∈ gw := gw_t3 233 rfl rfl
theorem kw714 : Cond.selects "LanternState$Scene" ⟨"LanternState$Scene", "sighers", "(II)I"⟩ ⟨"LanternState$Scene", "sighers", "(II)I"⟩ ∈ gw := gw_t3 234 rfl rfl
theorem kw715 : Cond.code ⟨"LanternState$Scene", "sighers", "(II)I"⟩ prog_7_method_17_code 3 (some FieldType.int) ∈ gw := gw_t3 235 rfl rfl
theorem kw716 : Cond.methodLink "LanternState$Scene" 164 ⟨"LanternState$Scene", "ownSighers", "(II)I"⟩ ∈ gw := gw_t3 236 rfl rfl
theorem kw717 : Cond.instanceMethod ⟨"LanternState$Scene", "ownSighers", "(II)I"⟩ ∈ gw := gw_t3 237 rfl rfl
theorem kw718 : Cond.selects "LanternState$Scene" ⟨"LanternState$Scene", "ownSighers", "(II)I"⟩ ⟨"LanternState$Scene", "ownSighers", "(II)I"⟩ ∈ gw := gw_t3 238 rfl rfl
theorem kw719 : Cond.code ⟨"LanternState$Scene", "ownSighers", "(II)I"⟩ prog_7_method_18_code 8 (some FieldType.int) ∈ gw := gw_t3 239 rfl rfl
theorem kw720 : Cond.methodLink "LanternState$Scene" 171 ⟨"LanternState$Picture", "mirror", "(I)I"⟩ ∈ gw := gw_t4 0 rfl rfl
theorem kw721 : Cond.methodLink "LanternState$Scene" 174 ⟨"java/lang/Integer", "bitCount", "(I)I"⟩ ∈ gw := gw_t4 1 rfl rfl
theorem kw722 : Cond.static ⟨"java/lang/Integer", "bitCount", "(I)I"⟩ ∈ gw := gw_t4 2 rfl rfl
theorem kw723 : Cond.code ⟨"java/lang/Integer", "bitCount", "(I)I"⟩ prog_18_method_49_code 1 (some FieldType.int) ∈ gw := gw_t4 3 rfl rfl
theorem kw724 : Cond.constant "java/lang/Integer" 265 (1431655765) ∈ gw := gw_t4 4 rfl rfl
theorem kw725 : Cond.constant "java/lang/Integer" 266 (858993459) ∈ gw := gw_t4 5 rfl rfl
theorem kw726 : Cond.constant "java/lang/Integer" 267 (252645135) ∈ gw := gw_t4 6 rfl rfl
theorem kw727 : Cond.methodLink "LanternState$Scene" 167 ⟨"LanternState$Scene", "spreadFrom", "(I)I"⟩ ∈ gw := gw_t4 7 rfl rfl
theorem kw728 : Cond.instanceMethod ⟨"LanternState$Scene", "spreadFrom", "(I)I"⟩ ∈ gw := gw_t4 8 rfl rfl
theorem kw729 : Cond.selects "LanternState$Scene" ⟨"LanternState$Scene", "spreadFrom", "(I)I"⟩ ⟨"LanternState$Scene", "spreadFrom", "(I)I"⟩ ∈ gw := gw_t4 9 rfl rfl
theorem kw730 : Cond.code ⟨"LanternState$Scene", "spreadFrom", "(I)I"⟩ prog_7_method_20_code 6 (some FieldType.int) ∈ gw := gw_t4 10 rfl rfl
theorem kw731 : Cond.methodLink "LanternState$State" 89 ⟨"java/lang/Integer", "bitCount", "(I)I"⟩ ∈ gw := gw_t4 11 rfl rfl
theorem kw732 : Cond.methodLink "LanternState$State" 95 ⟨"LanternState$Scene", "isEnough", "(I)Z"⟩ ∈ gw := gw_t4 12 rfl rfl
theorem kw733 : Cond.instanceMethod ⟨"LanternState$Scene", "isEnough", "(I)Z"⟩ ∈ gw := gw_t4 13 rfl rfl
theorem kw734 : Cond.selects "LanternState$Scene" ⟨"LanternState$Scene", "isEnough", "(I)Z"⟩ ⟨"LanternState$Scene", "isEnough", "(I)Z"⟩ ∈ gw := gw_t4 14 rfl rfl
theorem kw735 : Cond.code ⟨"LanternState$Scene", "isEnough", "(I)Z"⟩ prog_7_method_19_code 2 (some FieldType.boolean) ∈ gw := gw_t4 15 rfl rfl
theorem kw736 : Cond.methodLink "LanternState" 233 ⟨"LanternState", "keptShowing", "(I)I"⟩ ∈ gw := gw_t4 16 rfl rfl
theorem kw738 : Cond.instanceMethod ⟨"LanternState", "keptShowing", "(I)I"⟩ ∈ gw := gw_t4 18 rfl rfl
theorem kw739 : Cond.code ⟨"LanternState", "keptShowing", "(I)I"⟩ prog_1_method_47_code 2 (some FieldType.int) ∈ gw := gw_t4 19 rfl rfl
theorem kw740 : Cond.methodLink "LanternState" 242 ⟨"LanternState$History", "keep", "(LLanternState$State;)V"⟩ ∈ gw := gw_t4 20 rfl rfl
theorem kw741 : Cond.instanceMethod ⟨"LanternState$History", "keep", "(LLanternState$State;)V"⟩ ∈ gw := gw_t4 21 rfl rfl
theorem kw742 : Cond.selects "LanternState$History" ⟨"LanternState$History", "keep", "(LLanternState$State;)V"⟩ ⟨"LanternState$History", "keep", "(LLanternState$State;)V"⟩ ∈ gw := gw_t4 22 rfl rfl
theorem kw743 : Cond.code ⟨"LanternState$History", "keep", "(LLanternState$State;)V"⟩ prog_4_method_3_code 2 none ∈ gw := gw_t4 23 rfl rfl
theorem kw744 : Cond.methodLink "LanternState$History" 25 ⟨"LanternState$State", "copyFrom", "(LLanternState$State;)V"⟩ ∈ gw := gw_t4 24 rfl rfl
theorem kw745 : Cond.methodLink "LanternStateLaw" 72 ⟨"LanternState", "over", "(II)I"⟩ ∈ gw := gw_t4 25 rfl rfl
theorem kw746 : Cond.instanceMethod ⟨"LanternState", "over", "(II)I"⟩ ∈ gw := gw_t4 26 rfl rfl
theorem kw747 : Cond.selects "LanternState" ⟨"LanternState", "over", "(II)I"⟩ ⟨"LanternState", "over", "(II)I"⟩ ∈ gw := gw_t4 27 rfl rfl
theorem kw748 : Cond.code ⟨"LanternState", "over", "(II)I"⟩ prog_1_method_12_code 3 (some FieldType.int) ∈ gw := gw_t4 28 rfl rfl
theorem kw749 : Cond.methodLink "LanternState" 236 ⟨"LanternState$State", "showTwo", "(LLanternState$Scene;II)I"⟩ ∈ gw := gw_t4 29 rfl rfl
theorem kw750 : Cond.instanceMethod ⟨"LanternState$State", "showTwo", "(LLanternState$Scene;II)I"⟩ ∈ gw := gw_t4 30 rfl rfl
theorem kw751 : Cond.selects "LanternState$State" ⟨"LanternState$State", "showTwo", "(LLanternState$Scene;II)I"⟩ ⟨"LanternState$State", "showTwo", "(LLanternState$Scene;II)I"⟩ ∈ gw := gw_t4 31 rfl rfl
theorem kw752 : Cond.code ⟨"LanternState$State", "showTwo", "(LLanternState$Scene;II)I"⟩ prog_10_method_5_code 6 (some FieldType.int) ∈ gw := gw_t4 32 rfl rfl
theorem kw753 : Cond.methodLink "LanternStateLaw" 76 ⟨"LanternState", "scratch", "(III)I"⟩ ∈ gw := gw_t4 33 rfl rfl
theorem kw754 : Cond.instanceMethod ⟨"LanternState", "scratch", "(III)I"⟩ ∈ gw := gw_t4 34 rfl rfl
theorem kw755 : Cond.selects "LanternState" ⟨"LanternState", "scratch", "(III)I"⟩ ⟨"LanternState", "scratch", "(III)I"⟩ ∈ gw := gw_t4 35 rfl rfl
theorem kw756 : Cond.code ⟨"LanternState", "scratch", "(III)I"⟩ prog_1_method_13_code 5 (some FieldType.int) ∈ gw := gw_t4 36 rfl rfl
theorem kw757 : Cond.methodLink "LanternState" 239 ⟨"LanternState$State", "scratchCell", "(II)I"⟩ ∈ gw := gw_t4 37 rfl rfl
theorem kw758 : Cond.instanceMethod ⟨"LanternState$State", "scratchCell", "(II)I"⟩ ∈ gw := gw_t4 38 rfl rfl
theorem kw759 : Cond.selects "LanternState$State" ⟨"LanternState$State", "scratchCell", "(II)I"⟩ ⟨"LanternState$State", "scratchCell", "(II)I"⟩ ∈ gw := gw_t4 39 rfl rfl
theorem kw760 : Cond.code ⟨"LanternState$State", "scratchCell", "(II)I"⟩ prog_10_method_9_code 3 (some FieldType.int) ∈ gw := gw_t4 40 rfl rfl
theorem kw761 : Cond.methodLink "LanternStateLaw" 80 ⟨"LanternState", "sit", "(II)I"⟩ ∈ gw := gw_t4 41 rfl rfl
theorem kw762 : Cond.instanceMethod ⟨"LanternState", "sit", "(II)I"⟩ ∈ gw := gw_t4 42 rfl rfl
theorem kw763 : Cond.selects "LanternState" ⟨"LanternState", "sit", "(II)I"⟩ ⟨"LanternState", "sit", "(II)I"⟩ ∈ gw := gw_t4 43 rfl rfl
theorem kw764 : Cond.code ⟨"LanternState", "sit", "(II)I"⟩ prog_1_method_14_code 4 (some FieldType.int) ∈ gw := gw_t4 44 rfl rfl
theorem kw765 : Cond.methodLink "LanternState" 245 ⟨"LanternState$State", "seatHearer", "(II)I"⟩ ∈ gw := gw_t4 45 rfl rfl
theorem kw766 : Cond.instanceMethod ⟨"LanternState$State", "seatHearer", "(II)I"⟩ ∈ gw := gw_t4 46 rfl rfl
theorem kw767 : Cond.selects "LanternState$State" ⟨"LanternState$State", "seatHearer", "(II)I"⟩ ⟨"LanternState$State", "seatHearer", "(II)I"⟩ ∈ gw := gw_t4 47 rfl rfl
theorem kw768 : Cond.code ⟨"LanternState$State", "seatHearer", "(II)I"⟩ prog_10_method_10_code 3 (some FieldType.int) ∈ gw := gw_t4 48 rfl rfl
theorem kw769 : Cond.methodLink "LanternStateLaw" 84 ⟨"LanternState", "hours", "(I)I"⟩ ∈ gw := gw_t4 49 rfl rfl
theorem kw770 : Cond.instanceMethod ⟨"LanternState", "hours", "(I)I"⟩ ∈ gw := gw_t4 50 rfl rfl
theorem kw771 : Cond.selects "LanternState" ⟨"LanternState", "hours", "(I)I"⟩ ⟨"LanternState", "hours", "(I)I"⟩ ∈ gw := gw_t4 51 rfl rfl
theorem kw772 : Cond.code ⟨"LanternState", "hours", "(I)I"⟩ prog_1_method_15_code 3 (some FieldType.int) ∈ gw := gw_t4 52 rfl rfl
theorem kw773 : Cond.methodLink "LanternState" 248 ⟨"LanternState$State", "letHoursGo", "(I)I"⟩ ∈ gw := gw_t4 53 rfl rfl
theorem kw774 : Cond.instanceMethod ⟨"LanternState$State", "letHoursGo", "(I)I"⟩ ∈ gw := gw_t4 54 rfl rfl
theorem kw775 : Cond.selects "LanternState$State" ⟨"LanternState$State", "letHoursGo", "(I)I"⟩ ⟨"LanternState$State", "letHoursGo", "(I)I"⟩ ∈ gw := gw_t4 55 rfl rfl
theorem kw776 : Cond.code ⟨"LanternState$State", "letHoursGo", "(I)I"⟩ prog_10_method_11_code 4 (some FieldType.int) ∈ gw := gw_t4 56 rfl rfl
theorem kw777 : Cond.methodLink "LanternState$State" 99 ⟨"java/lang/Math", "min", "(II)I"⟩ ∈ gw := gw_t4 57 rfl rfl
theorem kw778 : Cond.static ⟨"java/lang/Math", "min", "(II)I"⟩ ∈ gw := gw_t4 58 rfl rfl
theorem kw779 : Cond.code ⟨"java/lang/Math", "min", "(II)I"⟩ prog_19_method_69_code 2 (some FieldType.int) ∈ gw := gw_t4 59 rfl rfl
theorem kw780 : Cond.methodLink "LanternState$State" 104 ⟨"LanternState$State", "letHourGo", "()V"⟩ ∈ gw := gw_t4 60 rfl rfl
theorem kw782 : Cond.instanceMethod ⟨"LanternState$State", "letHourGo", "()V"⟩ ∈ gw := gw_t4 62 rfl rfl
theorem kw783 : Cond.code ⟨"LanternState$State", "letHourGo", "()V"⟩ prog_10_method_12_code 1 none ∈ gw := gw_t4 63 rfl rfl
theorem kw784 : Cond.methodLink "LanternState$State" 107 ⟨"java/lang/Math", "max", "(II)I"⟩ ∈ gw := gw_t4 64 rfl rfl
theorem kw785 : Cond.static ⟨"java/lang/Math", "max", "(II)I"⟩ ∈ gw := gw_t4 65 rfl rfl
theorem kw786 : Cond.code ⟨"java/lang/Math", "max", "(II)I"⟩ prog_19_method_65_code 2 (some FieldType.int) ∈ gw := gw_t4 66 rfl rfl
theorem kw787 : Cond.methodLink "LanternStateLaw" 88 ⟨"LanternState", "undo", "()I"⟩ ∈ gw := gw_t4 67 rfl rfl
theorem kw788 : Cond.instanceMethod ⟨"LanternState", "undo", "()I"⟩ ∈ gw := gw_t4 68 rfl rfl
theorem kw789 : Cond.selects "LanternState" ⟨"LanternState", "undo", "()I"⟩ ⟨"LanternState", "undo", "()I"⟩ ∈ gw := gw_t4 69 rfl rfl
theorem kw790 : Cond.code ⟨"LanternState", "undo", "()I"⟩ prog_1_method_16_code 1 (some FieldType.int) ∈ gw := gw_t4 70 rfl rfl
theorem kw791 : Cond.methodLink "LanternState" 252 ⟨"LanternState$History", "takeBack", "(LLanternState$State;)V"⟩ ∈ gw := gw_t4 71 rfl rfl
theorem kw792 : Cond.instanceMethod ⟨"LanternState$History", "takeBack", "(LLanternState$State;)V"⟩ ∈ gw := gw_t4 72 rfl rfl
theorem kw793 : Cond.selects "LanternState$History" ⟨"LanternState$History", "takeBack", "(LLanternState$State;)V"⟩ ⟨"LanternState$History", "takeBack", "(LLanternState$State;)V"⟩ ∈ gw := gw_t4 73 rfl rfl
theorem kw794 : Cond.code ⟨"LanternState$History", "takeBack", "(LLanternState$State;)V"⟩ prog_4_method_4_code 2 none ∈ gw := gw_t4 74 rfl rfl
theorem kw795 : Cond.methodLink "LanternStateLaw" 92 ⟨"LanternState", "sighs", "(II)I"⟩ ∈ gw := gw_t4 75 rfl rfl
theorem kw796 : Cond.instanceMethod ⟨"LanternState", "sighs", "(II)I"⟩ ∈ gw := gw_t4 76 rfl rfl
theorem kw797 : Cond.selects "LanternState" ⟨"LanternState", "sighs", "(II)I"⟩ ⟨"LanternState", "sighs", "(II)I"⟩ ∈ gw := gw_t4 77 rfl rfl
theorem kw798 : Cond.code ⟨"LanternState", "sighs", "(II)I"⟩ prog_1_method_17_code 3 (some FieldType.int) ∈ gw := gw_t4 78 rfl rfl
theorem kw799 : Cond.methodLink "LanternState" 255 ⟨"LanternState", "sighers", "(II)I"⟩ ∈ gw := gw_t4 79 rfl rfl
theorem kw801 : Cond.instanceMethod ⟨"LanternState", "sighers", "(II)I"⟩ ∈ gw := gw_t4 81 rfl rfl
theorem kw802 : Cond.code ⟨"LanternState", "sighers", "(II)I"⟩ prog_1_method_46_code 3 (some FieldType.int) ∈ gw := gw_t4 82 rfl rfl
theorem kw803 : Cond.methodLink "LanternState" 353 ⟨"LanternState$Scene", "sighers", "(II)I"⟩ ∈ gw := gw_t4 83 rfl rfl
theorem kw804 : Cond.methodLink "LanternStateLaw" 96 ⟨"LanternState", "best", "(I)I"⟩ ∈ gw := gw_t4 84 rfl rfl
theorem kw805 : Cond.instanceMethod ⟨"LanternState", "best", "(I)I"⟩ ∈ gw := gw_t4 85 rfl rfl
theorem kw806 : Cond.selects "LanternState" ⟨"LanternState", "best", "(I)I"⟩ ⟨"LanternState", "best", "(I)I"⟩ ∈ gw := gw_t4 86 rfl rfl
theorem kw807 : Cond.code ⟨"LanternState", "best", "(I)I"⟩ prog_1_method_18_code 6 (some FieldType.int) ∈ gw := gw_t4 87 rfl rfl
theorem kw808 : Cond.methodLink "LanternState" 161 ⟨"java/lang/Integer", "bitCount", "(I)I"⟩ ∈ gw := gw_t4 88 rfl rfl
theorem kw809 : Cond.methodLink "LanternStateLaw" 100 ⟨"LanternState", "spreads", "(I)I"⟩ ∈ gw := gw_t4 89 rfl rfl
theorem kw810 : Cond.instanceMethod ⟨"LanternState", "spreads", "(I)I"⟩ ∈ gw := gw_t4 90 rfl rfl
theorem kw811 : Cond.selects "LanternState" ⟨"LanternState", "spreads", "(I)I"⟩ ⟨"LanternState", "spreads", "(I)I"⟩ ∈ gw := gw_t4 91 rfl rfl
theorem kw812 : Cond.code ⟨"LanternState", "spreads", "(I)I"⟩ prog_1_method_19_code 2 (some FieldType.int) ∈ gw := gw_t4 92 rfl rfl
theorem kw813 : Cond.methodLink "LanternState" 261 ⟨"LanternState$Scene", "spreadFrom", "(I)I"⟩ ∈ gw := gw_t4 93 rfl rfl
theorem kw814 : Cond.methodLink "LanternStateLaw" 104 ⟨"LanternState", "order", "()I"⟩ ∈ gw := gw_t4 94 rfl rfl
theorem kw815 : Cond.instanceMethod ⟨"LanternState", "order", "()I"⟩ ∈ gw := gw_t4 95 rfl rfl
theorem kw816 : Cond.selects "LanternState" ⟨"LanternState", "order", "()I"⟩ ⟨"LanternState", "order", "()I"⟩ ∈ gw := gw_t4 96 rfl rfl
theorem kw817 : Cond.code ⟨"LanternState", "order", "()I"⟩ prog_1_method_20_code 1 (some FieldType.int) ∈ gw := gw_t4 97 rfl rfl
theorem kw818 : Cond.methodLink "LanternState" 264 ⟨"LanternState$Search", "findOrder", "(LLanternState$Scene;LLanternState$State;)I"⟩ ∈ gw := gw_t4 98 rfl rfl
theorem kw819 : Cond.instanceMethod ⟨"LanternState$Search", "findOrder", "(LLanternState$Scene;LLanternState$State;)I"⟩ ∈ gw := gw_t4 99 rfl rfl
theorem kw820 : Cond.selects "LanternState$Search" ⟨"LanternState$Search", "findOrder", "(LLanternState$Scene;LLanternState$State;)I"⟩ ⟨"LanternState$Search", "findOrder", "(LLanternState$Scene;LLanternState$State;)I"⟩ ∈ gw := gw_t4 100 rfl rfl
theorem kw821 : Cond.code ⟨"LanternState$Search", "findOrder", "(LLanternState$Scene;LLanternState$State;)I"⟩ prog_8_method_2_code 5 (some FieldType.int) ∈ gw := gw_t4 101 rfl rfl
theorem kw822 : Cond.methodLink "LanternState$Search" 41 ⟨"LanternState$Scene", "sighers", "(II)I"⟩ ∈ gw := gw_t4 102 rfl rfl
theorem kw823 : Cond.methodLink "LanternState$Search" 45 ⟨"LanternState$Scene", "isEnough", "(I)Z"⟩ ∈ gw := gw_t4 103 rfl rfl
theorem kw824 : Cond.methodLink "LanternState$Search" 56 ⟨"LanternState$Search", "keepIfBetter", "(II)V"⟩ ∈ gw := gw_t4 104 rfl rfl
theorem kw826 : Cond.instanceMethod ⟨"LanternState$Search", "keepIfBetter", "(II)V"⟩ ∈ gw := gw_t4 106 rfl rfl
theorem kw827 : Cond.code ⟨"LanternState$Search", "keepIfBetter", "(II)V"⟩ prog_8_method_4_code 3 none ∈ gw := gw_t4 107 rfl rfl
theorem kw828 : Cond.methodLink "LanternState$Search" 79 ⟨"java/lang/System", "arraycopy", "(Ljava/lang/Object;ILjava/lang/Object;II)V"⟩ ∈ gw := gw_t4 108 rfl rfl
theorem kw829 : Cond.methodLink "LanternState$Search" 63 ⟨"LanternState$Search", "goOn", "(LLanternState$Scene;IIIII)V"⟩ ∈ gw := gw_t4 109 rfl rfl
theorem kw831 : Cond.instanceMethod ⟨"LanternState$Search", "goOn", "(LLanternState$Scene;IIIII)V"⟩ ∈ gw := gw_t4 111 rfl rfl
theorem kw832 : Cond.code ⟨"LanternState$Search", "goOn", "(LLanternState$Scene;IIIII)V"⟩ prog_8_method_3_code 13 none ∈ gw := gw_t4 112 rfl rfl
theorem kw833 : Cond.methodLink "LanternStateLaw" 108 ⟨"LanternState", "orderAt", "(I)I"⟩ ∈ gw := gw_t4 113 rfl rfl
theorem kw834 : Cond.instanceMethod ⟨"LanternState", "orderAt", "(I)I"⟩ ∈ gw := gw_t4 114 rfl rfl
theorem kw835 : Cond.selects "LanternState" ⟨"LanternState", "orderAt", "(I)I"⟩ ⟨"LanternState", "orderAt", "(I)I"⟩ ∈ gw := gw_t4 115 rfl rfl
theorem kw836 : Cond.code ⟨"LanternState", "orderAt", "(I)I"⟩ prog_1_method_21_code 2 (some FieldType.int) ∈ gw := gw_t4 116 rfl rfl
theorem kw837 : Cond.methodLink "LanternStateLaw" 112 ⟨"LanternState", "moved", "(II)I"⟩ ∈ gw := gw_t4 117 rfl rfl
theorem kw838 : Cond.instanceMethod ⟨"LanternState", "moved", "(II)I"⟩ ∈ gw := gw_t4 118 rfl rfl
theorem kw839 : Cond.selects "LanternState" ⟨"LanternState", "moved", "(II)I"⟩ ⟨"LanternState", "moved", "(II)I"⟩ ∈ gw := gw_t4 119 rfl rfl
theorem kw840 : Cond.code ⟨"LanternState", "moved", "(II)I"⟩ prog_1_method_22_code 4 (some FieldType.int) ∈ gw := gw_t4 120 rfl rfl
theorem kw841 : Cond.methodLink "LanternState" 274 ⟨"LanternState$Search", "findMoved", "(LLanternState$Scene;LLanternState$State;I)I"⟩ ∈ gw := gw_t4 121 rfl rfl
theorem kw842 : Cond.instanceMethod ⟨"LanternState$Search", "findMoved", "(LLanternState$Scene;LLanternState$State;I)I"⟩ ∈ gw := gw_t4 122 rfl rfl
theorem kw843 : Cond.selects "LanternState$Search" ⟨"LanternState$Search", "findMoved", "(LLanternState$Scene;LLanternState$State;I)I"⟩ ⟨"LanternState$Search", "findMoved", "(LLanternState$Scene;LLanternState$State;I)I"⟩ ∈ gw := gw_t4 123 rfl rfl
theorem kw844 : Cond.code ⟨"LanternState$Search", "findMoved", "(LLanternState$Scene;LLanternState$State;I)I"⟩ prog_8_method_5_code 10 (some FieldType.int) ∈ gw := gw_t4 124 rfl rfl
theorem kw845 : Cond.methodLink "LanternState$Search" 88 ⟨"LanternState$Scene", "ownSighers", "(II)I"⟩ ∈ gw := gw_t4 125 rfl rfl
theorem kw846 : Cond.methodLink "LanternState$Search" 91 ⟨"java/lang/Integer", "bitCount", "(I)I"⟩ ∈ gw := gw_t4 126 rfl rfl
theorem kw847 : Cond.methodLink "LanternState$Search" 97 ⟨"LanternState$Scene", "spreadFrom", "(I)I"⟩ ∈ gw := gw_t4 127 rfl rfl
theorem kw848 : Cond.methodLink "LanternStateLaw" 116 ⟨"LanternState", "movedWho", "()I"⟩ ∈ gw := gw_t4 128 rfl rfl
theorem kw849 : Cond.instanceMethod ⟨"LanternState", "movedWho", "()I"⟩ ∈ gw := gw_t4 129 rfl rfl
theorem kw850 : Cond.selects "LanternState" ⟨"LanternState", "movedWho", "()I"⟩ ⟨"LanternState", "movedWho", "()I"⟩ ∈ gw := gw_t4 130 rfl rfl
theorem kw851 : Cond.code ⟨"LanternState", "movedWho", "()I"⟩ prog_1_method_23_code 1 (some FieldType.int) ∈ gw := gw_t4 131 rfl rfl
theorem kw852 : Cond.methodLink "LanternStateLaw" 120 ⟨"LanternState", "scratches", "(I)I"⟩ ∈ gw := gw_t4 132 rfl rfl
theorem kw853 : Cond.instanceMethod ⟨"LanternState", "scratches", "(I)I"⟩ ∈ gw := gw_t4 133 rfl rfl
theorem kw854 : Cond.selects "LanternState" ⟨"LanternState", "scratches", "(I)I"⟩ ⟨"LanternState", "scratches", "(I)I"⟩ ∈ gw := gw_t4 134 rfl rfl
theorem kw855 : Cond.code ⟨"LanternState", "scratches", "(I)I"⟩ prog_1_method_24_code 3 (some FieldType.int) ∈ gw := gw_t4 135 rfl rfl
theorem kw856 : Cond.methodLink "LanternState" 278 ⟨"LanternState$Search", "findScratches", "(LLanternState$Scene;LLanternState$State;I)I"⟩ ∈ gw := gw_t4 136 rfl rfl
theorem kw857 : Cond.instanceMethod ⟨"LanternState$Search", "findScratches", "(LLanternState$Scene;LLanternState$State;I)I"⟩ ∈ gw := gw_t4 137 rfl rfl
theorem kw858 : Cond.selects "LanternState$Search" ⟨"LanternState$Search", "findScratches", "(LLanternState$Scene;LLanternState$State;I)I"⟩ ⟨"LanternState$Search", "findScratches", "(LLanternState$Scene;LLanternState$State;I)I"⟩ ∈ gw := gw_t4 138 rfl rfl
theorem kw859 : Cond.code ⟨"LanternState$Search", "findScratches", "(LLanternState$Scene;LLanternState$State;I)I"⟩ prog_8_method_6_code 6 (some FieldType.int) ∈ gw := gw_t4 139 rfl rfl
theorem kw860 : Cond.methodLink "LanternState$Search" 104 ⟨"LanternState$Search", "leastCells", "(LLanternState$Scene;III)I"⟩ ∈ gw := gw_t4 140 rfl rfl
theorem kw862 : Cond.instanceMethod ⟨"LanternState$Search", "leastCells", "(LLanternState$Scene;III)I"⟩ ∈ gw := gw_t4 142 rfl rfl
theorem kw863 : Cond.code ⟨"LanternState$Search", "leastCells", "(LLanternState$Scene;III)I"⟩ prog_8_method_7_code 7 (some FieldType.int) ∈ gw := gw_t4 143 rfl rfl
theorem kw864 : Cond.methodLink "LanternStateLaw" 124 ⟨"LanternState", "scratched", "()I"⟩ ∈ gw := gw_t4 144 rfl rfl
theorem kw865 : Cond.instanceMethod ⟨"LanternState", "scratched", "()I"⟩ ∈ gw := gw_t4 145 rfl rfl
theorem kw866 : Cond.selects "LanternState" ⟨"LanternState", "scratched", "()I"⟩ ⟨"LanternState", "scratched", "()I"⟩ ∈ gw := gw_t4 146 rfl rfl
theorem kw867 : Cond.code ⟨"LanternState", "scratched", "()I"⟩ prog_1_method_25_code 1 (some FieldType.int) ∈ gw := gw_t4 147 rfl rfl
theorem kw868 : Cond.methodLink "LanternStateLaw" 128 ⟨"LanternState", "seen", "()I"⟩ ∈ gw := gw_t4 148 rfl rfl
theorem kw869 : Cond.instanceMethod ⟨"LanternState", "seen", "()I"⟩ ∈ gw := gw_t4 149 rfl rfl
theorem kw870 : Cond.selects "LanternState" ⟨"LanternState", "seen", "()I"⟩ ⟨"LanternState", "seen", "()I"⟩ ∈ gw := gw_t4 150 rfl rfl
theorem kw871 : Cond.code ⟨"LanternState", "seen", "()I"⟩ prog_1_method_26_code 5 (some FieldType.int) ∈ gw := gw_t4 151 rfl rfl
theorem kw872 : Cond.methodLink "LanternState" 281 ⟨"LanternState$Tape", "pictureFrom", "(I)I"⟩ ∈ gw := gw_t4 152 rfl rfl
theorem kw873 : Cond.instanceMethod ⟨"LanternState$Tape", "pictureFrom", "(I)I"⟩ ∈ gw := gw_t4 153 rfl rfl
theorem kw874 : Cond.selects "LanternState$Tape" ⟨"LanternState$Tape", "pictureFrom", "(I)I"⟩ ⟨"LanternState$Tape", "pictureFrom", "(I)I"⟩ ∈ gw := gw_t4 154 rfl rfl
theorem kw875 : Cond.code ⟨"LanternState$Tape", "pictureFrom", "(I)I"⟩ prog_11_method_3_code 5 (some FieldType.int) ∈ gw := gw_t4 155 rfl rfl
theorem kw876 : Cond.methodLink "LanternState$Tape" 41 ⟨"LanternState$Picture", "ofRow", "(II)I"⟩ ∈ gw := gw_t4 156 rfl rfl
theorem kw877 : Cond.methodLink "LanternState" 287 ⟨"LanternState$Picture", "looks", "(III)Z"⟩ ∈ gw := gw_t4 157 rfl rfl
theorem kw878 : Cond.static ⟨"LanternState$Picture", "looks", "(III)Z"⟩ ∈ gw := gw_t4 158 rfl rfl
theorem kw879 : Cond.code ⟨"LanternState$Picture", "looks", "(III)Z"⟩ prog_6_method_8_code 4 (some FieldType.boolean) ∈ gw := gw_t4 159 rfl rfl
theorem kw880 : Cond.methodLink "LanternState$Picture" 20 ⟨"LanternState$Picture", "turn", "(II)I"⟩ ∈ gw := gw_t4 160 rfl rfl
theorem kw881 : Cond.methodLink "LanternStateLaw" 132 ⟨"LanternState", "alike", "(I)I"⟩ ∈ gw := gw_t4 161 rfl rfl
theorem kw882 : Cond.instanceMethod ⟨"LanternState", "alike", "(I)I"⟩ ∈ gw := gw_t4 162 rfl rfl
theorem kw883 : Cond.selects "LanternState" ⟨"LanternState", "alike", "(I)I"⟩ ⟨"LanternState", "alike", "(I)I"⟩ ∈ gw := gw_t4 163 rfl rfl
theorem kw884 : Cond.code ⟨"LanternState", "alike", "(I)I"⟩ prog_1_method_27_code 2 (some FieldType.int) ∈ gw := gw_t4 164 rfl rfl
theorem kw885 : Cond.methodLink "LanternState" 291 ⟨"LanternState$State", "lookalikes", "(LLanternState$Scene;I)I"⟩ ∈ gw := gw_t4 165 rfl rfl
theorem kw886 : Cond.instanceMethod ⟨"LanternState$State", "lookalikes", "(LLanternState$Scene;I)I"⟩ ∈ gw := gw_t4 166 rfl rfl
theorem kw887 : Cond.selects "LanternState$State" ⟨"LanternState$State", "lookalikes", "(LLanternState$Scene;I)I"⟩ ⟨"LanternState$State", "lookalikes", "(LLanternState$Scene;I)I"⟩ ∈ gw := gw_t4 167 rfl rfl
theorem kw888 : Cond.code ⟨"LanternState$State", "lookalikes", "(LLanternState$Scene;I)I"⟩ prog_10_method_15_code 5 (some FieldType.int) ∈ gw := gw_t4 168 rfl rfl
theorem kw889 : Cond.constant "LanternState$State" 120 (65535) ∈ gw := gw_t4 169 rfl rfl
theorem kw890 : Cond.methodLink "LanternState$State" 121 ⟨"LanternState$Picture", "looks", "(III)Z"⟩ ∈ gw := gw_t4 170 rfl rfl
theorem kw891 : Cond.methodLink "LanternStateLaw" 136 ⟨"LanternState", "differ", "(II)I"⟩ ∈ gw := gw_t4 171 rfl rfl
theorem kw892 : Cond.instanceMethod ⟨"LanternState", "differ", "(II)I"⟩ ∈ gw := gw_t4 172 rfl rfl
theorem kw893 : Cond.selects "LanternState" ⟨"LanternState", "differ", "(II)I"⟩ ⟨"LanternState", "differ", "(II)I"⟩ ∈ gw := gw_t4 173 rfl rfl
theorem kw894 : Cond.code ⟨"LanternState", "differ", "(II)I"⟩ prog_1_method_28_code 3 (some FieldType.int) ∈ gw := gw_t4 174 rfl rfl
theorem kw895 : Cond.methodLink "LanternStateLaw" 140 ⟨"LanternState", "parts", "()I"⟩ ∈ gw := gw_t4 175 rfl rfl
theorem kw896 : Cond.instanceMethod ⟨"LanternState", "parts", "()I"⟩ ∈ gw := gw_t4 176 rfl rfl
theorem kw897 : Cond.selects "LanternState" ⟨"LanternState", "parts", "()I"⟩ ⟨"LanternState", "parts", "()I"⟩ ∈ gw := gw_t4 177 rfl rfl
theorem kw898 : Cond.code ⟨"LanternState", "parts", "()I"⟩ prog_1_method_29_code 6 (some FieldType.int) ∈ gw := gw_t4 178 rfl rfl
theorem kw899 : Cond.methodLink "LanternState" 295 ⟨"java/lang/Math", "abs", "(I)I"⟩ ∈ gw := gw_t4 179 rfl rfl
theorem kw900 : Cond.static ⟨"java/lang/Math", "abs", "(I)I"⟩ ∈ gw := gw_t4 180 rfl rfl
theorem kw901 : Cond.code ⟨"java/lang/Math", "abs", "(I)I"⟩ prog_19_method_59_code 1 (some FieldType.int) ∈ gw := gw_t4 181 rfl rfl
theorem kw902 : Cond.methodLink "LanternStateLaw" 144 ⟨"LanternState", "bill", "(I)I"⟩ ∈ gw := gw_t4 182 rfl rfl
theorem kw903 : Cond.instanceMethod ⟨"LanternState", "bill", "(I)I"⟩ ∈ gw := gw_t4 183 rfl rfl
theorem kw904 : Cond.selects "LanternState" ⟨"LanternState", "bill", "(I)I"⟩ ⟨"LanternState", "bill", "(I)I"⟩ ∈ gw := gw_t4 184 rfl rfl
theorem kw905 : Cond.code ⟨"LanternState", "bill", "(I)I"⟩ prog_1_method_30_code 2 (some FieldType.int) ∈ gw := gw_t4 185 rfl rfl
theorem kw906 : Cond.methodLink "LanternState" 300 ⟨"LanternState$Bill", "write", "(LLanternState$Scene;LLanternState$State;I)V"⟩ ∈ gw := gw_t4 186 rfl rfl
theorem kw907 : Cond.instanceMethod ⟨"LanternState$Bill", "write", "(LLanternState$Scene;LLanternState$State;I)V"⟩ ∈ gw := gw_t4 187 rfl rfl
theorem kw908 : Cond.selects "LanternState$Bill" ⟨"LanternState$Bill", "write", "(LLanternState$Scene;LLanternState$State;I)V"⟩ ⟨"LanternState$Bill", "write", "(LLanternState$Scene;LLanternState$State;I)V"⟩ ∈ gw := gw_t4 188 rfl rfl
theorem kw909 : Cond.code ⟨"LanternState$Bill", "write", "(LLanternState$Scene;LLanternState$State;I)V"⟩ prog_2_method_2_code 5 none ∈ gw := gw_t4 189 rfl rfl
theorem kw910 : Cond.methodLink "LanternState$Bill" 25 ⟨"LanternState$Bill", "putName", "(J)V"⟩ ∈ gw := gw_t4 190 rfl rfl
theorem kw912 : Cond.instanceMethod ⟨"LanternState$Bill", "putName", "(J)V"⟩ ∈ gw := gw_t4 192 rfl rfl
theorem kw913 : Cond.code ⟨"LanternState$Bill", "putName", "(J)V"⟩ prog_2_method_4_code 5 none ∈ gw := gw_t4 193 rfl rfl
theorem kw914 : Cond.constantLong "LanternState$Bill" 67 (31) ∈ gw := gw_t4 194 rfl rfl
theorem kw915 : Cond.methodLink "LanternState$Bill" 63 ⟨"LanternState$Bill", "putLetter", "(C)V"⟩ ∈ gw := gw_t4 195 rfl rfl
theorem kw917 : Cond.instanceMethod ⟨"LanternState$Bill", "putLetter", "(C)V"⟩ ∈ gw := gw_t4 197 rfl rfl
theorem kw918 : Cond.code ⟨"LanternState$Bill", "putLetter", "(C)V"⟩ prog_2_method_5_code 2 none ∈ gw := gw_t4 198 rfl rfl
theorem kw920 : Cond.methodLink "LanternState$Bill" 36 ⟨"LanternState$Bill", "put", "(Ljava/lang/String;)V"⟩ ∈ gw := gw_t4 200 rfl rfl
theorem kw922 : Cond.instanceMethod ⟨"LanternState$Bill", "put", "(Ljava/lang/String;)V"⟩ ∈ gw := gw_t4 202 rfl rfl
theorem kw923 : Cond.code ⟨"LanternState$Bill", "put", "(Ljava/lang/String;)V"⟩ prog_2_method_3_code 3 none ∈ gw := gw_t4 203 rfl rfl
theorem kw924 : Cond.methodLink "LanternState$Bill" 53 ⟨"java/lang/String", "length", "()I"⟩ ∈ gw := gw_t4 204 rfl rfl
theorem kw925 : Cond.methodLink "LanternState$Bill" 59 ⟨"java/lang/String", "charAt", "(I)C"⟩ ∈ gw := gw_t4 205 rfl rfl
theorem kw928 : Cond.methodLink "LanternState$Bill" 47 ⟨"LanternState$State", "waitsFor", "(LLanternState$Scene;I)I"⟩ ∈ gw := gw_t4 208 rfl rfl
theorem kw930 : Cond.methodLink "LanternStateLaw" 148 ⟨"LanternState", "byteAt", "(I)I"⟩ ∈ gw := gw_t4 210 rfl rfl
theorem kw931 : Cond.instanceMethod ⟨"LanternState", "byteAt", "(I)I"⟩ ∈ gw := gw_t4 211 rfl rfl
theorem kw932 : Cond.selects "LanternState" ⟨"LanternState", "byteAt", "(I)I"⟩ ⟨"LanternState", "byteAt", "(I)I"⟩ ∈ gw := gw_t4 212 rfl rfl
theorem kw933 : Cond.code ⟨"LanternState", "byteAt", "(I)I"⟩ prog_1_method_31_code 2 (some FieldType.int) ∈ gw := gw_t4 213 rfl rfl
theorem kw934 : Cond.methodLink "LanternStateLaw" 152 ⟨"LanternState", "drawn", "(II)I"⟩ ∈ gw := gw_t4 214 rfl rfl
theorem kw935 : Cond.instanceMethod ⟨"LanternState", "drawn", "(II)I"⟩ ∈ gw := gw_t4 215 rfl rfl
theorem kw936 : Cond.selects "LanternState" ⟨"LanternState", "drawn", "(II)I"⟩ ⟨"LanternState", "drawn", "(II)I"⟩ ∈ gw := gw_t4 216 rfl rfl
theorem kw937 : Cond.code ⟨"LanternState", "drawn", "(II)I"⟩ prog_1_method_32_code 4 (some FieldType.int) ∈ gw := gw_t4 217 rfl rfl
theorem kw938 : Cond.methodLink "LanternState" 309 ⟨"LanternState$State", "drawHours", "(LLanternState$Scene;II)I"⟩ ∈ gw := gw_t4 218 rfl rfl
theorem kw939 : Cond.instanceMethod ⟨"LanternState$State", "drawHours", "(LLanternState$Scene;II)I"⟩ ∈ gw := gw_t4 219 rfl rfl
theorem kw940 : Cond.selects "LanternState$State" ⟨"LanternState$State", "drawHours", "(LLanternState$Scene;II)I"⟩ ⟨"LanternState$State", "drawHours", "(LLanternState$Scene;II)I"⟩ ∈ gw := gw_t4 220 rfl rfl
theorem kw941 : Cond.code ⟨"LanternState$State", "drawHours", "(LLanternState$Scene;II)I"⟩ prog_10_method_13_code 9 (some FieldType.int) ∈ gw := gw_t4 221 rfl rfl
theorem kw942 : Cond.methodLink "LanternState$State" 113 ⟨"LanternState$State", "drawOf", "(I)I"⟩ ∈ gw := gw_t4 222 rfl rfl
theorem kw944 : Cond.instanceMethod ⟨"LanternState$State", "drawOf", "(I)I"⟩ ∈ gw := gw_t4 224 rfl rfl
theorem kw945 : Cond.code ⟨"LanternState$State", "drawOf", "(I)I"⟩ prog_10_method_14_code 2 (some FieldType.int) ∈ gw := gw_t4 225 rfl rfl
theorem kw946 : Cond.constant "LanternState$State" 119 (1103515245) ∈ gw := gw_t4 226 rfl rfl
theorem kw947 : Cond.methodLink "LanternState$State" 116 ⟨"LanternState$State", "showOne", "(LLanternState$Scene;II)I"⟩ ∈ gw := gw_t4 227 rfl rfl
theorem kw948 : Cond.methodLink "LanternStateLaw" 156 ⟨"LanternState", "odds", "(III)I"⟩ ∈ gw := gw_t4 228 rfl rfl
theorem kw949 : Cond.instanceMethod ⟨"LanternState", "odds", "(III)I"⟩ ∈ gw := gw_t4 229 rfl rfl
theorem kw950 : Cond.selects "LanternState" ⟨"LanternState", "odds", "(III)I"⟩ ⟨"LanternState", "odds", "(III)I"⟩ ∈ gw := gw_t4 230 rfl rfl
theorem kw951 : Cond.code ⟨"LanternState", "odds", "(III)I"⟩ prog_1_method_33_code 6 (some FieldType.int) ∈ gw := gw_t4 231 rfl rfl
theorem kw952 : Cond.methodLink "LanternStateLaw" 160 ⟨"LanternState", "book", "(I)I"⟩ ∈ gw := gw_t4 232 rfl rfl
theorem kw953 : Cond.instanceMethod ⟨"LanternState", "book", "(I)I"⟩ ∈ gw := gw_t4 233 rfl rfl
theorem kw954 : Cond.selects "LanternState" ⟨"LanternState", "book", "(I)I"⟩ ⟨"LanternState", "book", "(I)I"⟩ ∈ gw := gw_t4 234 rfl rfl
theorem kw955 : Cond.code ⟨"LanternState", "book", "(I)I"⟩ prog_1_method_34_code 5 (some FieldType.int) ∈ gw := gw_t4 235 rfl rfl
theorem kw956 : Cond.methodLink "LanternState" 312 ⟨"LanternState$Book", "read", "(LLanternState$Tape;LLanternState$Scene;)Z"⟩ ∈ gw := gw_t4 236 rfl rfl
theorem kw957 : Cond.instanceMethod ⟨"LanternState$Book", "read", "(LLanternState$Tape;LLanternState$Scene;)Z"⟩ ∈ gw := gw_t4 237 rfl rfl
theorem kw958 : Cond.selects "LanternState$Book" ⟨"LanternState$Book", "read", "(LLanternState$Tape;LLanternState$Scene;)Z"⟩ ⟨"LanternState$Book", "read", "(LLanternState$Tape;LLanternState$Scene;)Z"⟩ ∈ gw := gw_t4 238 rfl rfl
theorem kw959 : Cond.code ⟨"LanternState$Book", "read", "(LLanternState$Tape;LLanternState$Scene;)Z"⟩ prog_3_method_2_code 3 (some FieldType.boolean) ∈ gw := gw_t4 239 rfl rfl
theorem kw960 : Cond.methodLink "LanternState$Book" 28 ⟨"LanternState$Tape", "next", "()V"⟩ ∈ gw := gw_t5 0 rfl rfl
theorem kw961 : Cond.methodLink "LanternState$Book" 36 ⟨"LanternState$Book", "readLine", "(LLanternState$Tape;LLanternState$Scene;)Z"⟩ ∈ gw := gw_t5 1 rfl rfl
theorem kw963 : Cond.instanceMethod ⟨"LanternState$Book", "readLine", "(LLanternState$Tape;LLanternState$Scene;)Z"⟩ ∈ gw := gw_t5 3 rfl rfl
theorem kw964 : Cond.code ⟨"LanternState$Book", "readLine", "(LLanternState$Tape;LLanternState$Scene;)Z"⟩ prog_3_method_3_code 5 (some FieldType.boolean) ∈ gw := gw_t5 4 rfl rfl
theorem kw965 : Cond.methodLink "LanternState$Book" 47 ⟨"LanternState$Tape", "fail", "(I)Z"⟩ ∈ gw := gw_t5 5 rfl rfl
theorem kw966 : Cond.methodLink "LanternState$Book" 55 ⟨"LanternState$Scene", "findSlide", "(J)I"⟩ ∈ gw := gw_t5 6 rfl rfl
theorem kw967 : Cond.methodLink "LanternState$Book" 61 ⟨"LanternState$Scene", "findHearer", "(J)I"⟩ ∈ gw := gw_t5 7 rfl rfl
theorem kw968 : Cond.methodLink "LanternState$Book" 64 ⟨"LanternState$Tape", "takeNumber", "(II)Z"⟩ ∈ gw := gw_t5 8 rfl rfl
theorem kw969 : Cond.methodLink "LanternState$Book" 71 ⟨"LanternState$Book", "keepLine", "(IIII)Z"⟩ ∈ gw := gw_t5 9 rfl rfl
theorem kw971 : Cond.instanceMethod ⟨"LanternState$Book", "keepLine", "(IIII)Z"⟩ ∈ gw := gw_t5 11 rfl rfl
theorem kw972 : Cond.code ⟨"LanternState$Book", "keepLine", "(IIII)Z"⟩ prog_3_method_6_code 5 (some FieldType.boolean) ∈ gw := gw_t5 12 rfl rfl
theorem kw973 : Cond.methodLink "LanternState$Book" 75 ⟨"LanternState$Book", "readSlideAct", "(LLanternState$Tape;LLanternState$Scene;I)Z"⟩ ∈ gw := gw_t5 13 rfl rfl
theorem kw975 : Cond.instanceMethod ⟨"LanternState$Book", "readSlideAct", "(LLanternState$Tape;LLanternState$Scene;I)Z"⟩ ∈ gw := gw_t5 15 rfl rfl
theorem kw976 : Cond.code ⟨"LanternState$Book", "readSlideAct", "(LLanternState$Tape;LLanternState$Scene;I)Z"⟩ prog_3_method_4_code 6 (some FieldType.boolean) ∈ gw := gw_t5 16 rfl rfl
theorem kw977 : Cond.methodLink "LanternState$Book" 83 ⟨"LanternState$Scene", "takeSlide", "(LLanternState$Tape;)I"⟩ ∈ gw := gw_t5 17 rfl rfl
theorem kw978 : Cond.methodLink "LanternState$Book" 79 ⟨"LanternState$Book", "readSeatAct", "(LLanternState$Tape;I)Z"⟩ ∈ gw := gw_t5 18 rfl rfl
theorem kw980 : Cond.instanceMethod ⟨"LanternState$Book", "readSeatAct", "(LLanternState$Tape;I)Z"⟩ ∈ gw := gw_t5 20 rfl rfl
theorem kw981 : Cond.code ⟨"LanternState$Book", "readSeatAct", "(LLanternState$Tape;I)Z"⟩ prog_3_method_5_code 3 (some FieldType.boolean) ∈ gw := gw_t5 21 rfl rfl
theorem kw982 : Cond.methodLink "LanternState$Book" 87 ⟨"LanternState$Tape", "takeKey", "(I)Z"⟩ ∈ gw := gw_t5 22 rfl rfl
theorem kw983 : Cond.instanceMethod ⟨"LanternState$Tape", "takeKey", "(I)Z"⟩ ∈ gw := gw_t5 23 rfl rfl
theorem kw984 : Cond.selects "LanternState$Tape" ⟨"LanternState$Tape", "takeKey", "(I)Z"⟩ ⟨"LanternState$Tape", "takeKey", "(I)Z"⟩ ∈ gw := gw_t5 24 rfl rfl
theorem kw985 : Cond.code ⟨"LanternState$Tape", "takeKey", "(I)Z"⟩ prog_11_method_12_code 2 (some FieldType.boolean) ∈ gw := gw_t5 25 rfl rfl
theorem kw986 : Cond.methodLink "LanternState$Book" 90 ⟨"LanternState$Tape", "takeSeat", "()Z"⟩ ∈ gw := gw_t5 26 rfl rfl
theorem kw987 : Cond.methodLink "LanternState$Book" 40 ⟨"LanternState$Tape", "takeLineEnd", "()Z"⟩ ∈ gw := gw_t5 27 rfl rfl
theorem kw988 : Cond.methodLink "LanternState" 315 ⟨"LanternState$Book", "liveIn", "(LLanternState$Scene;LLanternState$State;)I"⟩ ∈ gw := gw_t5 28 rfl rfl
theorem kw989 : Cond.instanceMethod ⟨"LanternState$Book", "liveIn", "(LLanternState$Scene;LLanternState$State;)I"⟩ ∈ gw := gw_t5 29 rfl rfl
theorem kw990 : Cond.selects "LanternState$Book" ⟨"LanternState$Book", "liveIn", "(LLanternState$Scene;LLanternState$State;)I"⟩ ⟨"LanternState$Book", "liveIn", "(LLanternState$Scene;LLanternState$State;)I"⟩ ∈ gw := gw_t5 30 rfl rfl
theorem kw991 : Cond.code ⟨"LanternState$Book", "liveIn", "(LLanternState$Scene;LLanternState$State;)I"⟩ prog_3_method_7_code 4 (some FieldType.int) ∈ gw := gw_t5 31 rfl rfl
theorem kw992 : Cond.methodLink "LanternState$Book" 96 ⟨"LanternState$Book", "liveLine", "(LLanternState$Scene;LLanternState$State;I)I"⟩ ∈ gw := gw_t5 32 rfl rfl
theorem kw994 : Cond.instanceMethod ⟨"LanternState$Book", "liveLine", "(LLanternState$Scene;LLanternState$State;I)I"⟩ ∈ gw := gw_t5 34 rfl rfl
theorem kw995 : Cond.code ⟨"LanternState$Book", "liveLine", "(LLanternState$Scene;LLanternState$State;I)I"⟩ prog_3_method_8_code 6 (some FieldType.int) ∈ gw := gw_t5 35 rfl rfl
theorem kw996 : Cond.methodLink "LanternState$Book" 100 ⟨"LanternState$State", "showOne", "(LLanternState$Scene;II)I"⟩ ∈ gw := gw_t5 36 rfl rfl
theorem kw997 : Cond.methodLink "LanternState$Book" 106 ⟨"LanternState$Book", "whyOf", "(II)I"⟩ ∈ gw := gw_t5 37 rfl rfl
theorem kw998 : Cond.static ⟨"LanternState$Book", "whyOf", "(II)I"⟩ ∈ gw := gw_t5 38 rfl rfl
theorem kw999 : Cond.code ⟨"LanternState$Book", "whyOf", "(II)I"⟩ prog_3_method_9_code 2 (some FieldType.int) ∈ gw := gw_t5 39 rfl rfl
theorem kw1000 : Cond.methodLink "LanternState$Book" 110 ⟨"LanternState$State", "showTwo", "(LLanternState$Scene;II)I"⟩ ∈ gw := gw_t5 40 rfl rfl
theorem kw1001 : Cond.methodLink "LanternState$Book" 113 ⟨"LanternState$Picture", "cell", "(II)I"⟩ ∈ gw := gw_t5 41 rfl rfl
theorem kw1002 : Cond.methodLink "LanternState$Book" 118 ⟨"LanternState$State", "scratchCell", "(II)I"⟩ ∈ gw := gw_t5 42 rfl rfl
theorem kw1003 : Cond.methodLink "LanternState$Book" 121 ⟨"LanternState$State", "seatHearer", "(II)I"⟩ ∈ gw := gw_t5 43 rfl rfl
theorem kw1004 : Cond.methodLink "LanternState$Book" 127 ⟨"LanternState$State", "letHoursGo", "(I)I"⟩ ∈ gw := gw_t5 44 rfl rfl
theorem kw1005 : Cond.methodLink "LanternStateLaw" 164 ⟨"LanternState", "told", "(I)I"⟩ ∈ gw := gw_t5 45 rfl rfl
theorem kw1006 : Cond.instanceMethod ⟨"LanternState", "told", "(I)I"⟩ ∈ gw := gw_t5 46 rfl rfl
theorem kw1007 : Cond.selects "LanternState" ⟨"LanternState", "told", "(I)I"⟩ ⟨"LanternState", "told", "(I)I"⟩ ∈ gw := gw_t5 47 rfl rfl
theorem kw1008 : Cond.code ⟨"LanternState", "told", "(I)I"⟩ prog_1_method_35_code 2 (some FieldType.int) ∈ gw := gw_t5 48 rfl rfl
theorem kw1009 : Cond.methodLink "LanternStateLaw" 168 ⟨"LanternState", "sentence", "()I"⟩ ∈ gw := gw_t5 49 rfl rfl
theorem kw1010 : Cond.instanceMethod ⟨"LanternState", "sentence", "()I"⟩ ∈ gw := gw_t5 50 rfl rfl
theorem kw1011 : Cond.selects "LanternState" ⟨"LanternState", "sentence", "()I"⟩ ⟨"LanternState", "sentence", "()I"⟩ ∈ gw := gw_t5 51 rfl rfl
theorem kw1012 : Cond.code ⟨"LanternState", "sentence", "()I"⟩ prog_1_method_36_code 2 (some FieldType.int) ∈ gw := gw_t5 52 rfl rfl
theorem kw1013 : Cond.methodLink "LanternState" 325 ⟨"LanternState$Sentence", "read", "(LLanternState$Tape;LLanternState$Scene;)Z"⟩ ∈ gw := gw_t5 53 rfl rfl
theorem kw1014 : Cond.instanceMethod ⟨"LanternState$Sentence", "read", "(LLanternState$Tape;LLanternState$Scene;)Z"⟩ ∈ gw := gw_t5 54 rfl rfl
theorem kw1015 : Cond.selects "LanternState$Sentence" ⟨"LanternState$Sentence", "read", "(LLanternState$Tape;LLanternState$Scene;)Z"⟩ ⟨"LanternState$Sentence", "read", "(LLanternState$Tape;LLanternState$Scene;)Z"⟩ ∈ gw := gw_t5 55 rfl rfl
theorem kw1016 : Cond.code ⟨"LanternState$Sentence", "read", "(LLanternState$Tape;LLanternState$Scene;)Z"⟩ prog_9_method_3_code 3 (some FieldType.boolean) ∈ gw := gw_t5 56 rfl rfl
theorem kw1017 : Cond.methodLink "LanternState$Sentence" 41 ⟨"LanternState$Tape", "next", "()V"⟩ ∈ gw := gw_t5 57 rfl rfl
theorem kw1018 : Cond.methodLink "LanternState$Sentence" 46 ⟨"LanternState$Sentence", "readCond", "(LLanternState$Tape;LLanternState$Scene;I)Z"⟩ ∈ gw := gw_t5 58 rfl rfl
theorem kw1020 : Cond.instanceMethod ⟨"LanternState$Sentence", "readCond", "(LLanternState$Tape;LLanternState$Scene;I)Z"⟩ ∈ gw := gw_t5 60 rfl rfl
theorem kw1021 : Cond.code ⟨"LanternState$Sentence", "readCond", "(LLanternState$Tape;LLanternState$Scene;I)Z"⟩ prog_9_method_4_code 6 (some FieldType.boolean) ∈ gw := gw_t5 61 rfl rfl
theorem kw1022 : Cond.methodLink "LanternState$Sentence" 57 ⟨"LanternState$Sentence", "readAll", "(LLanternState$Tape;LLanternState$Scene;I)Z"⟩ ∈ gw := gw_t5 62 rfl rfl
theorem kw1024 : Cond.instanceMethod ⟨"LanternState$Sentence", "readAll", "(LLanternState$Tape;LLanternState$Scene;I)Z"⟩ ∈ gw := gw_t5 64 rfl rfl
theorem kw1025 : Cond.code ⟨"LanternState$Sentence", "readAll", "(LLanternState$Tape;LLanternState$Scene;I)Z"⟩ prog_9_method_5_code 6 (some FieldType.boolean) ∈ gw := gw_t5 65 rfl rfl
theorem kw1026 : Cond.methodLink "LanternState$Sentence" 67 ⟨"LanternState$Sentence", "readOne", "(LLanternState$Tape;LLanternState$Scene;I)Z"⟩ ∈ gw := gw_t5 66 rfl rfl
theorem kw1028 : Cond.instanceMethod ⟨"LanternState$Sentence", "readOne", "(LLanternState$Tape;LLanternState$Scene;I)Z"⟩ ∈ gw := gw_t5 68 rfl rfl
theorem kw1029 : Cond.code ⟨"LanternState$Sentence", "readOne", "(LLanternState$Tape;LLanternState$Scene;I)Z"⟩ prog_9_method_6_code 5 (some FieldType.boolean) ∈ gw := gw_t5 69 rfl rfl
theorem kw1030 : Cond.methodLink "LanternState$Sentence" 70 ⟨"LanternState$Tape", "isSign", "(I)Z"⟩ ∈ gw := gw_t5 70 rfl rfl
theorem kw1031 : Cond.methodLink "LanternState$Sentence" 53 ⟨"LanternState$Tape", "fail", "(I)Z"⟩ ∈ gw := gw_t5 71 rfl rfl
theorem kw1032 : Cond.methodLink "LanternState$Sentence" 73 ⟨"LanternState$Sentence", "readBracket", "(LLanternState$Tape;LLanternState$Scene;I)Z"⟩ ∈ gw := gw_t5 72 rfl rfl
theorem kw1034 : Cond.instanceMethod ⟨"LanternState$Sentence", "readBracket", "(LLanternState$Tape;LLanternState$Scene;I)Z"⟩ ∈ gw := gw_t5 74 rfl rfl
theorem kw1035 : Cond.code ⟨"LanternState$Sentence", "readBracket", "(LLanternState$Tape;LLanternState$Scene;I)Z"⟩ prog_9_method_7_code 4 (some FieldType.boolean) ∈ gw := gw_t5 75 rfl rfl
theorem kw1036 : Cond.methodLink "LanternState$Sentence" 63 ⟨"LanternState$Sentence", "keepPart", "(III)Z"⟩ ∈ gw := gw_t5 76 rfl rfl
theorem kw1038 : Cond.instanceMethod ⟨"LanternState$Sentence", "keepPart", "(III)Z"⟩ ∈ gw := gw_t5 78 rfl rfl
theorem kw1039 : Cond.code ⟨"LanternState$Sentence", "keepPart", "(III)Z"⟩ prog_9_method_10_code 4 (some FieldType.boolean) ∈ gw := gw_t5 79 rfl rfl
theorem kw1040 : Cond.methodLink "LanternState$Sentence" 76 ⟨"LanternState$Scene", "takeSlide", "(LLanternState$Tape;)I"⟩ ∈ gw := gw_t5 80 rfl rfl
theorem kw1041 : Cond.methodLink "LanternState$Sentence" 82 ⟨"LanternState$Sentence", "keepLeaf", "(LLanternState$Tape;III)Z"⟩ ∈ gw := gw_t5 81 rfl rfl
theorem kw1043 : Cond.instanceMethod ⟨"LanternState$Sentence", "keepLeaf", "(LLanternState$Tape;III)Z"⟩ ∈ gw := gw_t5 83 rfl rfl
theorem kw1044 : Cond.code ⟨"LanternState$Sentence", "keepLeaf", "(LLanternState$Tape;III)Z"⟩ prog_9_method_9_code 5 (some FieldType.boolean) ∈ gw := gw_t5 84 rfl rfl
theorem kw1045 : Cond.methodLink "LanternState$Sentence" 86 ⟨"LanternState$Sentence", "readMeasure", "(LLanternState$Tape;)Z"⟩ ∈ gw := gw_t5 85 rfl rfl
theorem kw1047 : Cond.instanceMethod ⟨"LanternState$Sentence", "readMeasure", "(LLanternState$Tape;)Z"⟩ ∈ gw := gw_t5 87 rfl rfl
theorem kw1048 : Cond.code ⟨"LanternState$Sentence", "readMeasure", "(LLanternState$Tape;)Z"⟩ prog_9_method_8_code 4 (some FieldType.boolean) ∈ gw := gw_t5 88 rfl rfl
theorem kw1049 : Cond.methodLink "LanternState" 326 ⟨"LanternState$Sentence", "copyFrom", "(LLanternState$Sentence;)V"⟩ ∈ gw := gw_t5 89 rfl rfl
theorem kw1050 : Cond.instanceMethod ⟨"LanternState$Sentence", "copyFrom", "(LLanternState$Sentence;)V"⟩ ∈ gw := gw_t5 90 rfl rfl
theorem kw1051 : Cond.selects "LanternState$Sentence" ⟨"LanternState$Sentence", "copyFrom", "(LLanternState$Sentence;)V"⟩ ⟨"LanternState$Sentence", "copyFrom", "(LLanternState$Sentence;)V"⟩ ∈ gw := gw_t5 91 rfl rfl
theorem kw1052 : Cond.code ⟨"LanternState$Sentence", "copyFrom", "(LLanternState$Sentence;)V"⟩ prog_9_method_2_code 2 none ∈ gw := gw_t5 92 rfl rfl
theorem kw1053 : Cond.methodLink "LanternState$Sentence" 35 ⟨"java/lang/System", "arraycopy", "(Ljava/lang/Object;ILjava/lang/Object;II)V"⟩ ∈ gw := gw_t5 93 rfl rfl
theorem kw1054 : Cond.methodLink "LanternStateLaw" 172 ⟨"LanternState", "said", "(I)I"⟩ ∈ gw := gw_t5 94 rfl rfl
theorem kw1055 : Cond.instanceMethod ⟨"LanternState", "said", "(I)I"⟩ ∈ gw := gw_t5 95 rfl rfl
theorem kw1056 : Cond.selects "LanternState" ⟨"LanternState", "said", "(I)I"⟩ ⟨"LanternState", "said", "(I)I"⟩ ∈ gw := gw_t5 96 rfl rfl
theorem kw1057 : Cond.code ⟨"LanternState", "said", "(I)I"⟩ prog_1_method_37_code 5 (some FieldType.int) ∈ gw := gw_t5 97 rfl rfl
theorem kw1058 : Cond.methodLink "LanternState" 332 ⟨"LanternState$Sentence", "slidesOf", "(LLanternState$Scene;LLanternState$State;)I"⟩ ∈ gw := gw_t5 98 rfl rfl
theorem kw1059 : Cond.instanceMethod ⟨"LanternState$Sentence", "slidesOf", "(LLanternState$Scene;LLanternState$State;)I"⟩ ∈ gw := gw_t5 99 rfl rfl
theorem kw1060 : Cond.selects "LanternState$Sentence" ⟨"LanternState$Sentence", "slidesOf", "(LLanternState$Scene;LLanternState$State;)I"⟩ ⟨"LanternState$Sentence", "slidesOf", "(LLanternState$Scene;LLanternState$State;)I"⟩ ∈ gw := gw_t5 100 rfl rfl
theorem kw1061 : Cond.code ⟨"LanternState$Sentence", "slidesOf", "(LLanternState$Scene;LLanternState$State;)I"⟩ prog_9_method_11_code 6 (some FieldType.int) ∈ gw := gw_t5 101 rfl rfl
theorem kw1062 : Cond.methodLink "LanternState$Sentence" 96 ⟨"LanternState$Sentence", "leafSlides", "(LLanternState$Scene;LLanternState$State;I)I"⟩ ∈ gw := gw_t5 102 rfl rfl
theorem kw1064 : Cond.instanceMethod ⟨"LanternState$Sentence", "leafSlides", "(LLanternState$Scene;LLanternState$State;I)I"⟩ ∈ gw := gw_t5 104 rfl rfl
theorem kw1065 : Cond.code ⟨"LanternState$Sentence", "leafSlides", "(LLanternState$Scene;LLanternState$State;I)I"⟩ prog_9_method_12_code 6 (some FieldType.int) ∈ gw := gw_t5 105 rfl rfl
theorem kw1066 : Cond.methodLink "LanternState$Sentence" 108 ⟨"LanternState$State", "lookalikes", "(LLanternState$Scene;I)I"⟩ ∈ gw := gw_t5 106 rfl rfl
theorem kw1067 : Cond.methodLink "LanternState$Sentence" 112 ⟨"LanternState$Sentence", "isLeafTrue", "(LLanternState$Scene;LLanternState$State;II)Z"⟩ ∈ gw := gw_t5 107 rfl rfl
theorem kw1069 : Cond.instanceMethod ⟨"LanternState$Sentence", "isLeafTrue", "(LLanternState$Scene;LLanternState$State;II)Z"⟩ ∈ gw := gw_t5 109 rfl rfl
theorem kw1070 : Cond.code ⟨"LanternState$Sentence", "isLeafTrue", "(LLanternState$Scene;LLanternState$State;II)Z"⟩ prog_9_method_13_code 6 (some FieldType.boolean) ∈ gw := gw_t5 110 rfl rfl
theorem kw1071 : Cond.methodLink "LanternState$Sentence" 119 ⟨"LanternState$Picture", "mirror", "(I)I"⟩ ∈ gw := gw_t5 111 rfl rfl
theorem kw1072 : Cond.methodLink "LanternState$Sentence" 125 ⟨"java/lang/Integer", "bitCount", "(I)I"⟩ ∈ gw := gw_t5 112 rfl rfl
theorem kw1073 : Cond.methodLink "LanternState$Sentence" 130 ⟨"LanternState$Sentence", "compares", "(II)Z"⟩ ∈ gw := gw_t5 113 rfl rfl
theorem kw1075 : Cond.instanceMethod ⟨"LanternState$Sentence", "compares", "(II)Z"⟩ ∈ gw := gw_t5 115 rfl rfl
theorem kw1076 : Cond.code ⟨"LanternState$Sentence", "compares", "(II)Z"⟩ prog_9_method_14_code 3 (some FieldType.boolean) ∈ gw := gw_t5 116 rfl rfl
theorem kw1077 : Cond.methodLink "LanternState$Sentence" 140 ⟨"LanternState$Scene", "sighers", "(II)I"⟩ ∈ gw := gw_t5 117 rfl rfl
theorem kw1078 : Cond.methodLink "LanternStateLaw" 176 ⟨"LanternState", "image", "(I)Z"⟩ ∈ gw := gw_t5 118 rfl rfl
theorem kw1079 : Cond.instanceMethod ⟨"LanternState", "image", "(I)Z"⟩ ∈ gw := gw_t5 119 rfl rfl
theorem kw1080 : Cond.selects "LanternState" ⟨"LanternState", "image", "(I)Z"⟩ ⟨"LanternState", "image", "(I)Z"⟩ ∈ gw := gw_t5 120 rfl rfl
theorem kw1081 : Cond.code ⟨"LanternState", "image", "(I)Z"⟩ prog_1_method_38_code 2 (some FieldType.boolean) ∈ gw := gw_t5 121 rfl rfl
theorem kw1082 : Cond.methodLink "LanternStateLaw" 180 ⟨"LanternState", "restore", "(I)Z"⟩ ∈ gw := gw_t5 122 rfl rfl
theorem kw1083 : Cond.instanceMethod ⟨"LanternState", "restore", "(I)Z"⟩ ∈ gw := gw_t5 123 rfl rfl
theorem kw1084 : Cond.selects "LanternState" ⟨"LanternState", "restore", "(I)Z"⟩ ⟨"LanternState", "restore", "(I)Z"⟩ ∈ gw := gw_t5 124 rfl rfl
theorem kw1085 : Cond.code ⟨"LanternState", "restore", "(I)Z"⟩ prog_1_method_39_code 2 (some FieldType.boolean) ∈ gw := gw_t5 125 rfl rfl
theorem kw1086 : Cond.methodLink "LanternStateLaw" 184 ⟨"LanternState", "count", "(I)I"⟩ ∈ gw := gw_t5 126 rfl rfl
theorem kw1087 : Cond.instanceMethod ⟨"LanternState", "count", "(I)I"⟩ ∈ gw := gw_t5 127 rfl rfl
theorem kw1088 : Cond.selects "LanternState" ⟨"LanternState", "count", "(I)I"⟩ ⟨"LanternState", "count", "(I)I"⟩ ∈ gw := gw_t5 128 rfl rfl
theorem kw1089 : Cond.code ⟨"LanternState", "count", "(I)I"⟩ prog_1_method_40_code 2 (some FieldType.int) ∈ gw := gw_t5 129 rfl rfl
theorem kw1090 : Cond.methodLink "LanternStateLaw" 41 ⟨"LanternStateLaw", "slide", "(LLanternState;II[J)I"⟩ ∈ gw := gw_t5 130 rfl rfl
theorem kw1091 : Cond.static ⟨"LanternStateLaw", "slide", "(LLanternState;II[J)I"⟩ ∈ gw := gw_t5 131 rfl rfl
theorem kw1092 : Cond.codeWith ⟨"LanternStateLaw", "slide", "(LLanternState;II[J)I"⟩ method_3_code 5 (some FieldType.int) [((0), 10, 13, 13)] ∈ gw := gw_t5 132 rfl rfl
theorem kw1093 : Cond.classLink "LanternStateLaw" 13 "java/util/NoSuchElementException" ∈ gw := gw_t5 133 rfl rfl
theorem kw1094 : Cond.methodLink "LanternStateLaw" 7 ⟨"LanternState", "slide", "(II)I"⟩ ∈ gw := gw_t5 134 rfl rfl
theorem kw1095 : Cond.instanceMethod ⟨"LanternState", "slide", "(II)I"⟩ ∈ gw := gw_t5 135 rfl rfl
theorem kw1096 : Cond.selects "LanternState" ⟨"LanternState", "slide", "(II)I"⟩ ⟨"LanternState", "slide", "(II)I"⟩ ∈ gw := gw_t5 136 rfl rfl
theorem kw1097 : Cond.code ⟨"LanternState", "slide", "(II)I"⟩ prog_1_method_6_code 3 (some FieldType.int) ∈ gw := gw_t5 137 rfl rfl
theorem kw1098 : Cond.classLink "LanternState" 136 "java/util/NoSuchElementException" ∈ gw := gw_t5 138 rfl rfl
theorem kw1099 : Cond.instantiable "java/util/NoSuchElementException" 6 ∈ gw := gw_t5 139 rfl rfl
theorem kw1107 : Cond.selects "java/util/NoSuchElementException" ⟨"java/lang/Throwable", "fillInStackTrace", "(I)Ljava/lang/Throwable;"⟩ ⟨"java/lang/Throwable", "fillInStackTrace", "(I)Ljava/lang/Throwable;"⟩ ∈ gw := gw_t5 147 rfl rfl
theorem kw1108 : Cond.selects "java/util/NoSuchElementException" ⟨"java/lang/Throwable", "fillInStackTrace", "()Ljava/lang/Throwable;"⟩ ⟨"java/lang/Throwable", "fillInStackTrace", "()Ljava/lang/Throwable;"⟩ ∈ gw := gw_t5 148 rfl rfl
theorem kw1109 : Cond.lays "java/util/NoSuchElementException" "java/lang/Throwable" "cause" "Ljava/lang/Throwable;" ∈ gw := gw_t5 149 rfl rfl
theorem kw1110 : Cond.lays "java/lang/Throwable" "java/lang/Throwable" "cause" "Ljava/lang/Throwable;" ∈ gw := gw_t5 150 rfl rfl
theorem kw1111 : Cond.lays "java/util/NoSuchElementException" "java/lang/Throwable" "stackTrace" "[Ljava/lang/StackTraceElement;" ∈ gw := gw_t5 151 rfl rfl
theorem kw1112 : Cond.lays "java/lang/Throwable" "java/lang/Throwable" "stackTrace" "[Ljava/lang/StackTraceElement;" ∈ gw := gw_t5 152 rfl rfl
theorem kw1113 : Cond.lays "java/util/NoSuchElementException" "java/lang/Throwable" "suppressedExceptions" "Ljava/util/List;" ∈ gw := gw_t5 153 rfl rfl
theorem kw1114 : Cond.lays "java/lang/Throwable" "java/lang/Throwable" "suppressedExceptions" "Ljava/util/List;" ∈ gw := gw_t5 154 rfl rfl
theorem kw1115 : Cond.lays "java/util/NoSuchElementException" "java/lang/Throwable" "detailMessage" "Ljava/lang/String;" ∈ gw := gw_t5 155 rfl rfl
theorem kw1116 : Cond.lays "java/lang/Throwable" "java/lang/Throwable" "detailMessage" "Ljava/lang/String;" ∈ gw := gw_t5 156 rfl rfl
theorem kw1117 : Cond.lays "java/util/NoSuchElementException" "java/lang/Throwable" "backtrace" "Ljava/lang/Object;" ∈ gw := gw_t5 157 rfl rfl
theorem kw1118 : Cond.lays "java/lang/Throwable" "java/lang/Throwable" "backtrace" "Ljava/lang/Object;" ∈ gw := gw_t5 158 rfl rfl
theorem kw1119 : Cond.fieldLink "java/lang/Throwable" 198 "java/lang/Throwable" "backtrace" "Ljava/lang/Object;" ∈ gw := gw_t5 159 rfl rfl
theorem kw1121 : Cond.instanceMethod ⟨"java/lang/Throwable", "<init>", "()V"⟩ ∈ gw := gw_t5 161 rfl rfl
theorem kw1122 : Cond.code ⟨"java/lang/Throwable", "<init>", "()V"⟩ prog_25_method_1_code 1 none ∈ gw := gw_t5 162 rfl rfl
theorem kw1123 : Cond.methodLink "java/lang/Throwable" 1 ⟨"java/lang/Object", "<init>", "()V"⟩ ∈ gw := gw_t5 163 rfl rfl
theorem kw1124 : Cond.fieldLink "java/lang/Throwable" 13 "java/lang/Throwable" "UNASSIGNED_STACK" "[Ljava/lang/StackTraceElement;" ∈ gw := gw_t5 164 rfl rfl
theorem kw1126 : Cond.fieldLink "java/lang/Throwable" 20 "java/lang/Throwable" "SUPPRESSED_SENTINEL" "Ljava/util/List;" ∈ gw := gw_t5 166 rfl rfl
theorem kw1128 : Cond.methodLink "java/lang/Throwable" 27 ⟨"java/lang/Throwable", "fillInStackTrace", "()Ljava/lang/Throwable;"⟩ ∈ gw := gw_t5 168 rfl rfl
theorem kw1129 : Cond.instanceMethod ⟨"java/lang/Throwable", "fillInStackTrace", "()Ljava/lang/Throwable;"⟩ ∈ gw := gw_t5 169 rfl rfl
theorem kw1130 : Cond.sameMethod "java/lang/Throwable" "java/lang/Throwable" "fillInStackTrace" "()Ljava/lang/Throwable;" ∈ gw := gw_t5 170 rfl rfl
theorem kw1132 : Cond.methodLink "java/lang/Throwable" 202 ⟨"java/lang/Throwable", "fillInStackTrace", "(I)Ljava/lang/Throwable;"⟩ ∈ gw := gw_t5 172 rfl rfl
theorem kw1134 : Cond.instanceMethod ⟨"java/lang/Throwable", "fillInStackTrace", "(I)Ljava/lang/Throwable;"⟩ ∈ gw := gw_t5 174 rfl rfl
theorem kw1135 : Cond.instantiable "java/lang/Throwable" 6 ∈ gw := gw_t5 175 rfl rfl
theorem kw1136 : Cond.native ⟨"java/lang/Throwable", "fillInStackTrace", "(I)Ljava/lang/Throwable;"⟩ ∈ gw := gw_t5 176 rfl rfl
theorem kw1138 : Cond.methodLink "LanternState" 140 ⟨"java/util/NoSuchElementException", "<init>", "(Ljava/lang/String;)V"⟩ ∈ gw := gw_t5 178 rfl rfl
theorem kw1139 : Cond.instanceMethod ⟨"java/util/NoSuchElementException", "<init>", "(Ljava/lang/String;)V"⟩ ∈ gw := gw_t5 179 rfl rfl
theorem kw1140 : Cond.code ⟨"java/util/NoSuchElementException", "<init>", "(Ljava/lang/String;)V"⟩ prog_28_method_4_code 2 none ∈ gw := gw_t5 180 rfl rfl
theorem kw1141 : Cond.methodLink "java/util/NoSuchElementException" 13 ⟨"java/lang/RuntimeException", "<init>", "(Ljava/lang/String;)V"⟩ ∈ gw := gw_t5 181 rfl rfl
theorem kw1142 : Cond.instanceMethod ⟨"java/lang/RuntimeException", "<init>", "(Ljava/lang/String;)V"⟩ ∈ gw := gw_t5 182 rfl rfl
theorem kw1143 : Cond.code ⟨"java/lang/RuntimeException", "<init>", "(Ljava/lang/String;)V"⟩ prog_20_method_2_code 2 none ∈ gw := gw_t5 183 rfl rfl
theorem kw1144 : Cond.methodLink "java/lang/RuntimeException" 7 ⟨"java/lang/Exception", "<init>", "(Ljava/lang/String;)V"⟩ ∈ gw := gw_t5 184 rfl rfl
theorem kw1145 : Cond.instanceMethod ⟨"java/lang/Exception", "<init>", "(Ljava/lang/String;)V"⟩ ∈ gw := gw_t5 185 rfl rfl
theorem kw1146 : Cond.code ⟨"java/lang/Exception", "<init>", "(Ljava/lang/String;)V"⟩ prog_17_method_2_code 2 none ∈ gw := gw_t5 186 rfl rfl
theorem kw1147 : Cond.methodLink "java/lang/Exception" 7 ⟨"java/lang/Throwable", "<init>", "(Ljava/lang/String;)V"⟩ ∈ gw := gw_t5 187 rfl rfl
theorem kw1148 : Cond.instanceMethod ⟨"java/lang/Throwable", "<init>", "(Ljava/lang/String;)V"⟩ ∈ gw := gw_t5 188 rfl rfl
theorem kw1149 : Cond.code ⟨"java/lang/Throwable", "<init>", "(Ljava/lang/String;)V"⟩ prog_25_method_2_code 2 none ∈ gw := gw_t5 189 rfl rfl
theorem kw1150 : Cond.fieldLink "java/lang/Throwable" 198 "java/lang/Throwable" "backtrace" "Ljava/lang/Object;" ∈ gw := gw_t5 190 rfl rfl
theorem kw1151 : Cond.fieldLink "java/lang/Throwable" 31 "java/lang/Throwable" "detailMessage" "Ljava/lang/String;" ∈ gw := gw_t5 191 rfl rfl
theorem kw1152 : Cond.fieldLink "java/lang/Throwable" 7 "java/lang/Throwable" "cause" "Ljava/lang/Throwable;" ∈ gw := gw_t5 192 rfl rfl
theorem kw1153 : Cond.fieldLink "java/lang/Throwable" 17 "java/lang/Throwable" "stackTrace" "[Ljava/lang/StackTraceElement;" ∈ gw := gw_t5 193 rfl rfl
theorem kw1154 : Cond.fieldLink "java/lang/Throwable" 24 "java/lang/Throwable" "suppressedExceptions" "Ljava/util/List;" ∈ gw := gw_t5 194 rfl rfl
theorem kw1159 : Cond.lays "java/util/NoSuchElementException" "java/lang/Throwable" "depth" "I" ∈ gw := gw_t5 199 rfl rfl
theorem kw1163 : Cond.methodLink "LanternStateLaw" 55 ⟨"LanternStateLaw", "hearer", "(LLanternState;II[J)I"⟩ ∈ gw := gw_t5 203 rfl rfl
theorem kw1164 : Cond.static ⟨"LanternStateLaw", "hearer", "(LLanternState;II[J)I"⟩ ∈ gw := gw_t5 204 rfl rfl
theorem kw1165 : Cond.codeWith ⟨"LanternStateLaw", "hearer", "(LLanternState;II[J)I"⟩ method_4_code 5 (some FieldType.int) [((0), 10, 13, 13)] ∈ gw := gw_t5 205 rfl rfl
theorem kw1166 : Cond.methodLink "LanternStateLaw" 15 ⟨"LanternState", "hearer", "(II)I"⟩ ∈ gw := gw_t5 206 rfl rfl
theorem kw1167 : Cond.instanceMethod ⟨"LanternState", "hearer", "(II)I"⟩ ∈ gw := gw_t5 207 rfl rfl
theorem kw1168 : Cond.selects "LanternState" ⟨"LanternState", "hearer", "(II)I"⟩ ⟨"LanternState", "hearer", "(II)I"⟩ ∈ gw := gw_t5 208 rfl rfl
theorem kw1169 : Cond.code ⟨"LanternState", "hearer", "(II)I"⟩ prog_1_method_8_code 3 (some FieldType.int) ∈ gw := gw_t5 209 rfl rfl
theorem kw1171 : Cond.methodLink "LanternStateLaw" 47 ⟨"LanternStateModel", "thrown", "()I"⟩ ∈ gw := gw_t5 211 rfl rfl
theorem kw1172 : Cond.instanceMethod ⟨"LanternStateModel", "thrown", "()I"⟩ ∈ gw := gw_t5 212 rfl rfl
theorem kw1173 : Cond.selects "LanternStateModel" ⟨"LanternStateModel", "thrown", "()I"⟩ ⟨"LanternStateModel", "thrown", "()I"⟩ ∈ gw := gw_t5 213 rfl rfl
theorem kw1174 : Cond.code ⟨"LanternStateModel", "thrown", "()I"⟩ prog_13_method_1_code 1 (some FieldType.int) ∈ gw := gw_t5 214 rfl rfl
theorem kw1175 : Cond.methodLink "LanternStateLaw" 26 ⟨"LanternStateModel", "feed", "(IIIII)I"⟩ ∈ gw := gw_t5 215 rfl rfl
theorem kw1176 : Cond.instanceMethod ⟨"LanternStateModel", "feed", "(IIIII)I"⟩ ∈ gw := gw_t5 216 rfl rfl
theorem kw1177 : Cond.selects "LanternStateModel" ⟨"LanternStateModel", "feed", "(IIIII)I"⟩ ⟨"LanternStateModel", "feed", "(IIIII)I"⟩ ∈ gw := gw_t5 217 rfl rfl
theorem kw1178 : Cond.code ⟨"LanternStateModel", "feed", "(IIIII)I"⟩ prog_13_method_4_code 6 (some FieldType.int) ∈ gw := gw_t5 218 rfl rfl
theorem kw1179 : Cond.methodLink "LanternStateModel" 14 ⟨"LanternStateModel", "come", "(I)V"⟩ ∈ gw := gw_t5 219 rfl rfl
theorem kw1181 : Cond.instanceMethod ⟨"LanternStateModel", "come", "(I)V"⟩ ∈ gw := gw_t5 221 rfl rfl
theorem kw1182 : Cond.instantiable "LanternStateModel" 44 ∈ gw := gw_t5 222 rfl rfl
theorem kw1183 : Cond.code ⟨"LanternStateModel", "come", "(I)V"⟩ prog_13_method_3_code 3 none ∈ gw := gw_t5 223 rfl rfl
theorem kw1184 : Cond.methodLink "LanternStateLaw" 31 ⟨"LanternStateModel", "end", "(I)Z"⟩ ∈ gw := gw_t5 224 rfl rfl
theorem kw1185 : Cond.instanceMethod ⟨"LanternStateModel", "end", "(I)Z"⟩ ∈ gw := gw_t5 225 rfl rfl
theorem kw1186 : Cond.selects "LanternStateModel" ⟨"LanternStateModel", "end", "(I)Z"⟩ ⟨"LanternStateModel", "end", "(I)Z"⟩ ∈ gw := gw_t5 226 rfl rfl
theorem kw1187 : Cond.code ⟨"LanternStateModel", "end", "(I)Z"⟩ prog_13_method_5_code 2 (some FieldType.boolean) ∈ gw := gw_t5 227 rfl rfl
theorem kw1188 : Cond.classLink "LanternStateLaw" 19 "LanternStateModel" ∈ gw := gw_t5 228 rfl rfl
theorem kw1189 : Cond.methodLink "LanternStateLaw" 21 ⟨"LanternStateModel", "<init>", "()V"⟩ ∈ gw := gw_t5 229 rfl rfl
theorem kw1190 : Cond.instanceMethod ⟨"LanternStateModel", "<init>", "()V"⟩ ∈ gw := gw_t5 230 rfl rfl
theorem kw1191 : Cond.code ⟨"LanternStateModel", "<init>", "()V"⟩ prog_13_method_26_code 2 none ∈ gw := gw_t5 231 rfl rfl
theorem kw1192 : Cond.methodLink "LanternStateModel" 93 ⟨"java/lang/Object", "<init>", "()V"⟩ ∈ gw := gw_t5 232 rfl rfl
theorem kw1193 : Cond.methodLink "LanternStateModel" 154 ⟨"LanternStateModel", "startRead", "()V"⟩ ∈ gw := gw_t5 233 rfl rfl
theorem kw1195 : Cond.instanceMethod ⟨"LanternStateModel", "startRead", "()V"⟩ ∈ gw := gw_t5 235 rfl rfl
theorem kw1196 : Cond.code ⟨"LanternStateModel", "startRead", "()V"⟩ prog_13_method_27_code 2 none ∈ gw := gw_t5 236 rfl rfl
theorem kw1197 : Cond.fieldLink "LanternStateModel" 1 "LanternStateModel" "thrown" "I" ∈ gw := gw_t5 237 rfl rfl
theorem kw1198 : Cond.fieldLink "LanternStateModel" 7 "LanternStateModel" "tape" "[I" ∈ gw := gw_t5 238 rfl rfl
theorem kw1199 : Cond.fieldLink "LanternStateModel" 11 "LanternStateModel" "taped" "I" ∈ gw := gw_t5 239 rfl rfl
theorem kw1200 : Cond.fieldLink "LanternStateModel" 18 "LanternStateModel" "size" "I" ∈ gw := gw_t6 0 rfl rfl
theorem kw1201 : Cond.fieldLink "LanternStateModel" 27 "LanternStateModel" "limit" "I" ∈ gw := gw_t6 1 rfl rfl
theorem kw1202 : Cond.fieldLink "LanternStateModel" 21 "LanternStateModel" "to" "I" ∈ gw := gw_t6 2 rfl rfl
theorem kw1203 : Cond.fieldLink "LanternStateModel" 24 "LanternStateModel" "from" "I" ∈ gw := gw_t6 3 rfl rfl
theorem kw1204 : Cond.fieldLink "LanternStateModel" 30 "LanternStateModel" "kind" "I" ∈ gw := gw_t6 4 rfl rfl
theorem kw1205 : Cond.fieldLink "LanternStateModel" 47 "LanternStateModel" "number" "I" ∈ gw := gw_t6 5 rfl rfl
theorem kw1206 : Cond.fieldLink "LanternStateModel" 40 "LanternStateModel" "sign" "I" ∈ gw := gw_t6 6 rfl rfl
theorem kw1207 : Cond.fieldLink "LanternStateModel" 66 "LanternStateModel" "fault" "I" ∈ gw := gw_t6 7 rfl rfl
theorem kw1208 : Cond.fieldLink "LanternStateModel" 69 "LanternStateModel" "place" "I" ∈ gw := gw_t6 8 rfl rfl
theorem kw1209 : Cond.fieldLink "LanternStateModel" 43 "LanternStateModel" "word" "J" ∈ gw := gw_t6 9 rfl rfl
theorem kw1210 : Cond.fieldLink "LanternStateModel" 79 "LanternStateModel" "told" "I" ∈ gw := gw_t6 10 rfl rfl
theorem kw1211 : Cond.fieldLink "LanternStateModel" 98 "LanternStateModel" "now" "[I" ∈ gw := gw_t6 11 rfl rfl
theorem kw1212 : Cond.fieldLink "LanternStateModel" 101 "LanternStateModel" "read" "[I" ∈ gw := gw_t6 12 rfl rfl
theorem kw1213 : Cond.fieldLink "LanternStateModel" 104 "LanternStateModel" "kept" "[I" ∈ gw := gw_t6 13 rfl rfl
theorem kw1214 : Cond.fieldLink "LanternStateModel" 107 "LanternStateModel" "snaps" "[I" ∈ gw := gw_t6 14 rfl rfl
theorem kw1215 : Cond.fieldLink "LanternStateModel" 110 "LanternStateModel" "aside" "[I" ∈ gw := gw_t6 15 rfl rfl
theorem kw1216 : Cond.fieldLink "LanternStateModel" 113 "LanternStateModel" "name" "[J" ∈ gw := gw_t6 16 rfl rfl
theorem kw1217 : Cond.fieldLink "LanternStateModel" 117 "LanternStateModel" "readName" "[J" ∈ gw := gw_t6 17 rfl rfl
theorem kw1218 : Cond.fieldLink "LanternStateModel" 120 "LanternStateModel" "keptName" "[J" ∈ gw := gw_t6 18 rfl rfl
theorem kw1219 : Cond.fieldLink "LanternStateModel" 123 "LanternStateModel" "isKept" "[Z" ∈ gw := gw_t6 19 rfl rfl
theorem kw1220 : Cond.fieldLink "LanternStateModel" 127 "LanternStateModel" "onces" "[Z" ∈ gw := gw_t6 20 rfl rfl
theorem kw1221 : Cond.fieldLink "LanternStateModel" 231 "LanternStateModel" "snapMany" "I" ∈ gw := gw_t6 21 rfl rfl
theorem kw1222 : Cond.fieldLink "LanternStateModel" 130 "LanternStateModel" "order" "[I" ∈ gw := gw_t6 22 rfl rfl
theorem kw1223 : Cond.fieldLink "LanternStateModel" 133 "LanternStateModel" "ordered" "[I" ∈ gw := gw_t6 23 rfl rfl
theorem kw1224 : Cond.fieldLink "LanternStateModel" 310 "LanternStateModel" "orderMany" "I" ∈ gw := gw_t6 24 rfl rfl
theorem kw1225 : Cond.fieldLink "LanternStateModel" 307 "LanternStateModel" "orderMost" "I" ∈ gw := gw_t6 25 rfl rfl
theorem kw1226 : Cond.fieldLink "LanternStateModel" 317 "LanternStateModel" "passing" "I" ∈ gw := gw_t6 26 rfl rfl
theorem kw1227 : Cond.fieldLink "LanternStateModel" 136 "LanternStateModel" "movedWho" "I" ∈ gw := gw_t6 27 rfl rfl
theorem kw1228 : Cond.fieldLink "LanternStateModel" 139 "LanternStateModel" "scratched" "I" ∈ gw := gw_t6 28 rfl rfl
theorem kw1229 : Cond.fieldLink "LanternStateModel" 142 "LanternStateModel" "text" "[I" ∈ gw := gw_t6 29 rfl rfl
theorem kw1230 : Cond.fieldLink "LanternStateModel" 333 "LanternStateModel" "texts" "I" ∈ gw := gw_t6 30 rfl rfl
theorem kw1231 : Cond.fieldLink "LanternStateModel" 346 "LanternStateModel" "seed" "I" ∈ gw := gw_t6 31 rfl rfl
theorem kw1232 : Cond.fieldLink "LanternStateModel" 145 "LanternStateModel" "line" "[I" ∈ gw := gw_t6 32 rfl rfl
theorem kw1233 : Cond.fieldLink "LanternStateModel" 148 "LanternStateModel" "written" "[I" ∈ gw := gw_t6 33 rfl rfl
theorem kw1234 : Cond.fieldLink "LanternStateModel" 371 "LanternStateModel" "lineMany" "I" ∈ gw := gw_t6 34 rfl rfl
theorem kw1235 : Cond.fieldLink "LanternStateModel" 386 "LanternStateModel" "hasWritten" "Z" ∈ gw := gw_t6 35 rfl rfl
theorem kw1236 : Cond.fieldLink "LanternStateModel" 151 "LanternStateModel" "node" "[I" ∈ gw := gw_t6 36 rfl rfl
theorem kw1237 : Cond.fieldLink "LanternStateModel" 394 "LanternStateModel" "nodes" "I" ∈ gw := gw_t6 37 rfl rfl
theorem kw1238 : Cond.fieldLink "LanternStateModel" 410 "LanternStateModel" "onesMany" "I" ∈ gw := gw_t6 38 rfl rfl
theorem kw1239 : Cond.fieldLink "LanternStateModel" 413 "LanternStateModel" "within" "I" ∈ gw := gw_t6 39 rfl rfl
theorem kw1240 : Cond.fieldLink "LanternStateModel" 400 "LanternStateModel" "top" "I" ∈ gw := gw_t6 40 rfl rfl
theorem kw1241 : Cond.lays "LanternStateModel" "LanternStateModel" "thrown" "I" ∈ gw := gw_t6 41 rfl rfl
theorem kw1243 : Cond.laysFinal "LanternStateModel" "LanternStateModel" "tape" "[I" ∈ gw := gw_t6 43 rfl rfl
theorem kw1245 : Cond.lays "LanternStateModel" "LanternStateModel" "taped" "I" ∈ gw := gw_t6 45 rfl rfl
theorem kw1247 : Cond.lays "LanternStateModel" "LanternStateModel" "size" "I" ∈ gw := gw_t6 47 rfl rfl
theorem kw1249 : Cond.lays "LanternStateModel" "LanternStateModel" "limit" "I" ∈ gw := gw_t6 49 rfl rfl
theorem kw1251 : Cond.lays "LanternStateModel" "LanternStateModel" "to" "I" ∈ gw := gw_t6 51 rfl rfl
theorem kw1253 : Cond.lays "LanternStateModel" "LanternStateModel" "from" "I" ∈ gw := gw_t6 53 rfl rfl
theorem kw1255 : Cond.lays "LanternStateModel" "LanternStateModel" "kind" "I" ∈ gw := gw_t6 55 rfl rfl
theorem kw1257 : Cond.lays "LanternStateModel" "LanternStateModel" "number" "I" ∈ gw := gw_t6 57 rfl rfl
theorem kw1259 : Cond.lays "LanternStateModel" "LanternStateModel" "sign" "I" ∈ gw := gw_t6 59 rfl rfl
theorem kw1261 : Cond.lays "LanternStateModel" "LanternStateModel" "fault" "I" ∈ gw := gw_t6 61 rfl rfl
theorem kw1263 : Cond.lays "LanternStateModel" "LanternStateModel" "place" "I" ∈ gw := gw_t6 63 rfl rfl
theorem kw1265 : Cond.lays "LanternStateModel" "LanternStateModel" "word" "J" ∈ gw := gw_t6 65 rfl rfl
theorem kw1267 : Cond.lays "LanternStateModel" "LanternStateModel" "told" "I" ∈ gw := gw_t6 67 rfl rfl
theorem kw1269 : Cond.laysFinal "LanternStateModel" "LanternStateModel" "now" "[I" ∈ gw := gw_t6 69 rfl rfl
theorem kw1271 : Cond.laysFinal "LanternStateModel" "LanternStateModel" "read" "[I" ∈ gw := gw_t6 71 rfl rfl
theorem kw1273 : Cond.laysFinal "LanternStateModel" "LanternStateModel" "kept" "[I" ∈ gw := gw_t6 73 rfl rfl
theorem kw1275 : Cond.laysFinal "LanternStateModel" "LanternStateModel" "snaps" "[I" ∈ gw := gw_t6 75 rfl rfl
theorem kw1277 : Cond.laysFinal "LanternStateModel" "LanternStateModel" "aside" "[I" ∈ gw := gw_t6 77 rfl rfl
theorem kw1279 : Cond.laysFinal "LanternStateModel" "LanternStateModel" "name" "[J" ∈ gw := gw_t6 79 rfl rfl
theorem kw1281 : Cond.laysFinal "LanternStateModel" "LanternStateModel" "readName" "[J" ∈ gw := gw_t6 81 rfl rfl
theorem kw1283 : Cond.laysFinal "LanternStateModel" "LanternStateModel" "keptName" "[J" ∈ gw := gw_t6 83 rfl rfl
theorem kw1285 : Cond.laysFinal "LanternStateModel" "LanternStateModel" "isKept" "[Z" ∈ gw := gw_t6 85 rfl rfl
theorem kw1287 : Cond.laysFinal "LanternStateModel" "LanternStateModel" "onces" "[Z" ∈ gw := gw_t6 87 rfl rfl
theorem kw1289 : Cond.lays "LanternStateModel" "LanternStateModel" "snapMany" "I" ∈ gw := gw_t6 89 rfl rfl
theorem kw1291 : Cond.laysFinal "LanternStateModel" "LanternStateModel" "order" "[I" ∈ gw := gw_t6 91 rfl rfl
theorem kw1293 : Cond.laysFinal "LanternStateModel" "LanternStateModel" "ordered" "[I" ∈ gw := gw_t6 93 rfl rfl
theorem kw1295 : Cond.lays "LanternStateModel" "LanternStateModel" "orderMany" "I" ∈ gw := gw_t6 95 rfl rfl
theorem kw1297 : Cond.lays "LanternStateModel" "LanternStateModel" "orderMost" "I" ∈ gw := gw_t6 97 rfl rfl
theorem kw1299 : Cond.lays "LanternStateModel" "LanternStateModel" "passing" "I" ∈ gw := gw_t6 99 rfl rfl
theorem kw1301 : Cond.lays "LanternStateModel" "LanternStateModel" "movedWho" "I" ∈ gw := gw_t6 101 rfl rfl
theorem kw1303 : Cond.lays "LanternStateModel" "LanternStateModel" "scratched" "I" ∈ gw := gw_t6 103 rfl rfl
theorem kw1305 : Cond.laysFinal "LanternStateModel" "LanternStateModel" "text" "[I" ∈ gw := gw_t6 105 rfl rfl
theorem kw1307 : Cond.lays "LanternStateModel" "LanternStateModel" "texts" "I" ∈ gw := gw_t6 107 rfl rfl
theorem kw1309 : Cond.lays "LanternStateModel" "LanternStateModel" "seed" "I" ∈ gw := gw_t6 109 rfl rfl
theorem kw1311 : Cond.laysFinal "LanternStateModel" "LanternStateModel" "line" "[I" ∈ gw := gw_t6 111 rfl rfl
theorem kw1313 : Cond.laysFinal "LanternStateModel" "LanternStateModel" "written" "[I" ∈ gw := gw_t6 113 rfl rfl
theorem kw1315 : Cond.lays "LanternStateModel" "LanternStateModel" "lineMany" "I" ∈ gw := gw_t6 115 rfl rfl
theorem kw1317 : Cond.lays "LanternStateModel" "LanternStateModel" "hasWritten" "Z" ∈ gw := gw_t6 117 rfl rfl
theorem kw1319 : Cond.laysFinal "LanternStateModel" "LanternStateModel" "node" "[I" ∈ gw := gw_t6 119 rfl rfl
theorem kw1321 : Cond.lays "LanternStateModel" "LanternStateModel" "nodes" "I" ∈ gw := gw_t6 121 rfl rfl
theorem kw1323 : Cond.lays "LanternStateModel" "LanternStateModel" "onesMany" "I" ∈ gw := gw_t6 123 rfl rfl
theorem kw1325 : Cond.lays "LanternStateModel" "LanternStateModel" "within" "I" ∈ gw := gw_t6 125 rfl rfl
theorem kw1327 : Cond.lays "LanternStateModel" "LanternStateModel" "top" "I" ∈ gw := gw_t6 127 rfl rfl
theorem kw1330 : Cond.arrayClass FieldType.boolean ∈ gw := gw_t6 130 rfl rfl
theorem kw1331 : Cond.methodLink "LanternStateLaw" 36 ⟨"LanternStateModel", "session", "()I"⟩ ∈ gw := gw_t6 131 rfl rfl
theorem kw1332 : Cond.instanceMethod ⟨"LanternStateModel", "session", "()I"⟩ ∈ gw := gw_t6 132 rfl rfl
theorem kw1333 : Cond.selects "LanternStateModel" ⟨"LanternStateModel", "session", "()I"⟩ ⟨"LanternStateModel", "session", "()I"⟩ ∈ gw := gw_t6 133 rfl rfl
theorem kw1334 : Cond.code ⟨"LanternStateModel", "session", "()I"⟩ prog_13_method_44_code 3 (some FieldType.int) ∈ gw := gw_t6 134 rfl rfl
theorem kw1335 : Cond.methodLink "LanternStateModel" 219 ⟨"LanternStateModel", "begin", "(I)V"⟩ ∈ gw := gw_t6 135 rfl rfl
theorem kw1337 : Cond.instanceMethod ⟨"LanternStateModel", "begin", "(I)V"⟩ ∈ gw := gw_t6 137 rfl rfl
theorem kw1338 : Cond.code ⟨"LanternStateModel", "begin", "(I)V"⟩ prog_13_method_25_code 2 none ∈ gw := gw_t6 138 rfl rfl
theorem kw1339 : Cond.methodLink "LanternStateModel" 89 ⟨"LanternStateModel", "take", "()I"⟩ ∈ gw := gw_t6 139 rfl rfl
theorem kw1341 : Cond.instanceMethod ⟨"LanternStateModel", "take", "()I"⟩ ∈ gw := gw_t6 141 rfl rfl
theorem kw1342 : Cond.code ⟨"LanternStateModel", "take", "()I"⟩ prog_13_method_6_code 2 (some FieldType.int) ∈ gw := gw_t6 142 rfl rfl
theorem kw1343 : Cond.methodLink "LanternStateModel" 82 ⟨"LanternStateModel", "go", "()V"⟩ ∈ gw := gw_t6 143 rfl rfl
theorem kw1345 : Cond.instanceMethod ⟨"LanternStateModel", "go", "()V"⟩ ∈ gw := gw_t6 145 rfl rfl
theorem kw1346 : Cond.code ⟨"LanternStateModel", "go", "()V"⟩ prog_13_method_16_code 5 none ∈ gw := gw_t6 146 rfl rfl
theorem kw1347 : Cond.methodLink "LanternStateModel" 33 ⟨"LanternStateModel", "isLetter", "(I)Z"⟩ ∈ gw := gw_t6 147 rfl rfl
theorem kw1348 : Cond.static ⟨"LanternStateModel", "isLetter", "(I)Z"⟩ ∈ gw := gw_t6 148 rfl rfl
theorem kw1349 : Cond.code ⟨"LanternStateModel", "isLetter", "(I)Z"⟩ prog_13_method_15_code 1 (some FieldType.boolean) ∈ gw := gw_t6 149 rfl rfl
theorem kw1350 : Cond.methodLink "LanternStateModel" 37 ⟨"LanternStateModel", "isDigit", "(I)Z"⟩ ∈ gw := gw_t6 150 rfl rfl
theorem kw1351 : Cond.static ⟨"LanternStateModel", "isDigit", "(I)Z"⟩ ∈ gw := gw_t6 151 rfl rfl
theorem kw1352 : Cond.code ⟨"LanternStateModel", "isDigit", "(I)Z"⟩ prog_13_method_14_code 1 (some FieldType.boolean) ∈ gw := gw_t6 152 rfl rfl
theorem kw1353 : Cond.methodLink "LanternStateModel" 50 ⟨"LanternStateModel", "tapeAt", "(I)I"⟩ ∈ gw := gw_t6 153 rfl rfl
theorem kw1355 : Cond.instanceMethod ⟨"LanternStateModel", "tapeAt", "(I)I"⟩ ∈ gw := gw_t6 155 rfl rfl
theorem kw1356 : Cond.code ⟨"LanternStateModel", "tapeAt", "(I)I"⟩ prog_13_method_13_code 2 (some FieldType.int) ∈ gw := gw_t6 156 rfl rfl
theorem kw1357 : Cond.constantLong "LanternStateModel" 54 (27) ∈ gw := gw_t6 157 rfl rfl
theorem kw1358 : Cond.constantLong "LanternStateModel" 56 (96) ∈ gw := gw_t6 158 rfl rfl
theorem kw1359 : Cond.methodLink "LanternStateModel" 222 ⟨"LanternStateModel", "readLine", "()Z"⟩ ∈ gw := gw_t6 159 rfl rfl
theorem kw1361 : Cond.instanceMethod ⟨"LanternStateModel", "readLine", "()Z"⟩ ∈ gw := gw_t6 161 rfl rfl
theorem kw1362 : Cond.code ⟨"LanternStateModel", "readLine", "()Z"⟩ prog_13_method_43_code 1 (some FieldType.boolean) ∈ gw := gw_t6 162 rfl rfl
theorem kw1363 : Cond.methodLink "LanternStateModel" 169 ⟨"LanternStateModel", "isWord", "(I)Z"⟩ ∈ gw := gw_t6 163 rfl rfl
theorem kw1365 : Cond.instanceMethod ⟨"LanternStateModel", "isWord", "(I)Z"⟩ ∈ gw := gw_t6 165 rfl rfl
theorem kw1366 : Cond.code ⟨"LanternStateModel", "isWord", "(I)Z"⟩ prog_13_method_19_code 2 (some FieldType.boolean) ∈ gw := gw_t6 166 rfl rfl
theorem kw1367 : Cond.methodLink "LanternStateModel" 62 ⟨"LanternStateModel", "wordOf", "(I)J"⟩ ∈ gw := gw_t6 167 rfl rfl
theorem kw1368 : Cond.static ⟨"LanternStateModel", "wordOf", "(I)J"⟩ ∈ gw := gw_t6 168 rfl rfl
theorem kw1369 : Cond.code ⟨"LanternStateModel", "wordOf", "(I)J"⟩ prog_13_method_18_code 1 (some FieldType.long) ∈ gw := gw_t6 169 rfl rfl
theorem kw1370 : Cond.methodLink "LanternStateModel" 58 ⟨"LanternStateModel", "spelt", "(IIIIIII)J"⟩ ∈ gw := gw_t6 170 rfl rfl
theorem kw1371 : Cond.static ⟨"LanternStateModel", "spelt", "(IIIIIII)J"⟩ ∈ gw := gw_t6 171 rfl rfl
theorem kw1372 : Cond.code ⟨"LanternStateModel", "spelt", "(IIIIIII)J"⟩ prog_13_method_17_code 9 (some FieldType.long) ∈ gw := gw_t6 172 rfl rfl
theorem kw1373 : Cond.methodLink "LanternStateModel" 201 ⟨"LanternStateModel", "readSlide", "()Z"⟩ ∈ gw := gw_t6 173 rfl rfl
theorem kw1375 : Cond.instanceMethod ⟨"LanternStateModel", "readSlide", "()Z"⟩ ∈ gw := gw_t6 175 rfl rfl
theorem kw1376 : Cond.code ⟨"LanternStateModel", "readSlide", "()Z"⟩ prog_13_method_38_code 4 (some FieldType.boolean) ∈ gw := gw_t6 176 rfl rfl
theorem kw1377 : Cond.methodLink "LanternStateModel" 172 ⟨"LanternStateModel", "readFirst", "(II)Z"⟩ ∈ gw := gw_t6 177 rfl rfl
theorem kw1379 : Cond.instanceMethod ⟨"LanternStateModel", "readFirst", "(II)Z"⟩ ∈ gw := gw_t6 179 rfl rfl
theorem kw1380 : Cond.code ⟨"LanternStateModel", "readFirst", "(II)Z"⟩ prog_13_method_34_code 3 (some FieldType.boolean) ∈ gw := gw_t6 180 rfl rfl
theorem kw1381 : Cond.methodLink "LanternStateModel" 72 ⟨"LanternStateModel", "bad", "(I)Z"⟩ ∈ gw := gw_t6 181 rfl rfl
theorem kw1383 : Cond.instanceMethod ⟨"LanternStateModel", "bad", "(I)Z"⟩ ∈ gw := gw_t6 183 rfl rfl
theorem kw1384 : Cond.code ⟨"LanternStateModel", "bad", "(I)Z"⟩ prog_13_method_22_code 2 (some FieldType.boolean) ∈ gw := gw_t6 184 rfl rfl
theorem kw1385 : Cond.methodLink "LanternStateModel" 175 ⟨"LanternStateModel", "readNew", "(I)Z"⟩ ∈ gw := gw_t6 185 rfl rfl
theorem kw1387 : Cond.instanceMethod ⟨"LanternStateModel", "readNew", "(I)Z"⟩ ∈ gw := gw_t6 187 rfl rfl
theorem kw1388 : Cond.code ⟨"LanternStateModel", "readNew", "(I)Z"⟩ prog_13_method_30_code 2 (some FieldType.boolean) ∈ gw := gw_t6 188 rfl rfl
theorem kw1389 : Cond.methodLink "LanternStateModel" 157 ⟨"LanternStateModel", "isName", "()Z"⟩ ∈ gw := gw_t6 189 rfl rfl
theorem kw1391 : Cond.instanceMethod ⟨"LanternStateModel", "isName", "()Z"⟩ ∈ gw := gw_t6 191 rfl rfl
theorem kw1392 : Cond.code ⟨"LanternStateModel", "isName", "()Z"⟩ prog_13_method_21_code 2 (some FieldType.boolean) ∈ gw := gw_t6 192 rfl rfl
theorem kw1393 : Cond.methodLink "LanternStateModel" 161 ⟨"LanternStateModel", "findIn", "([JIIJ)I"⟩ ∈ gw := gw_t6 193 rfl rfl
theorem kw1394 : Cond.static ⟨"LanternStateModel", "findIn", "([JIIJ)I"⟩ ∈ gw := gw_t6 194 rfl rfl
theorem kw1395 : Cond.code ⟨"LanternStateModel", "findIn", "([JIIJ)I"⟩ prog_13_method_29_code 6 (some FieldType.int) ∈ gw := gw_t6 195 rfl rfl
theorem kw1396 : Cond.methodLink "LanternStateModel" 178 ⟨"LanternStateModel", "readNumber", "(II)Z"⟩ ∈ gw := gw_t6 196 rfl rfl
theorem kw1398 : Cond.instanceMethod ⟨"LanternStateModel", "readNumber", "(II)Z"⟩ ∈ gw := gw_t6 198 rfl rfl
theorem kw1399 : Cond.code ⟨"LanternStateModel", "readNumber", "(II)Z"⟩ prog_13_method_23_code 3 (some FieldType.boolean) ∈ gw := gw_t6 199 rfl rfl
theorem kw1400 : Cond.methodLink "LanternStateModel" 75 ⟨"LanternStateModel", "isIn", "(III)Z"⟩ ∈ gw := gw_t6 200 rfl rfl
theorem kw1401 : Cond.static ⟨"LanternStateModel", "isIn", "(III)Z"⟩ ∈ gw := gw_t6 201 rfl rfl
theorem kw1402 : Cond.code ⟨"LanternStateModel", "isIn", "(III)Z"⟩ prog_13_method_7_code 3 (some FieldType.boolean) ∈ gw := gw_t6 202 rfl rfl
theorem kw1403 : Cond.methodLink "LanternStateModel" 181 ⟨"LanternStateModel", "rowIn", "(II)I"⟩ ∈ gw := gw_t6 203 rfl rfl
theorem kw1404 : Cond.static ⟨"LanternStateModel", "rowIn", "(II)I"⟩ ∈ gw := gw_t6 204 rfl rfl
theorem kw1405 : Cond.code ⟨"LanternStateModel", "rowIn", "(II)I"⟩ prog_13_method_46_code 4 (some FieldType.int) ∈ gw := gw_t6 205 rfl rfl
theorem kw1406 : Cond.methodLink "LanternStateModel" 185 ⟨"LanternStateModel", "put", "(IZ)Z"⟩ ∈ gw := gw_t6 206 rfl rfl
theorem kw1408 : Cond.instanceMethod ⟨"LanternStateModel", "put", "(IZ)Z"⟩ ∈ gw := gw_t6 208 rfl rfl
theorem kw1409 : Cond.code ⟨"LanternStateModel", "put", "(IZ)Z"⟩ prog_13_method_35_code 3 (some FieldType.boolean) ∈ gw := gw_t6 209 rfl rfl
theorem kw1410 : Cond.methodLink "LanternStateModel" 204 ⟨"LanternStateModel", "readHearer", "()Z"⟩ ∈ gw := gw_t6 210 rfl rfl
theorem kw1412 : Cond.instanceMethod ⟨"LanternStateModel", "readHearer", "()Z"⟩ ∈ gw := gw_t6 212 rfl rfl
theorem kw1413 : Cond.code ⟨"LanternStateModel", "readHearer", "()Z"⟩ prog_13_method_39_code 2 (some FieldType.boolean) ∈ gw := gw_t6 213 rfl rfl
theorem kw1414 : Cond.methodLink "LanternStateModel" 189 ⟨"LanternStateModel", "isSeat", "()Z"⟩ ∈ gw := gw_t6 214 rfl rfl
theorem kw1416 : Cond.instanceMethod ⟨"LanternStateModel", "isSeat", "()Z"⟩ ∈ gw := gw_t6 216 rfl rfl
theorem kw1417 : Cond.code ⟨"LanternStateModel", "isSeat", "()Z"⟩ prog_13_method_36_code 1 (some FieldType.boolean) ∈ gw := gw_t6 217 rfl rfl
theorem kw1418 : Cond.methodLink "LanternStateModel" 207 ⟨"LanternStateModel", "readThinks", "(I)Z"⟩ ∈ gw := gw_t6 218 rfl rfl
theorem kw1420 : Cond.instanceMethod ⟨"LanternStateModel", "readThinks", "(I)Z"⟩ ∈ gw := gw_t6 220 rfl rfl
theorem kw1421 : Cond.code ⟨"LanternStateModel", "readThinks", "(I)Z"⟩ prog_13_method_40_code 4 (some FieldType.boolean) ∈ gw := gw_t6 221 rfl rfl
theorem kw1422 : Cond.methodLink "LanternStateModel" 192 ⟨"LanternStateModel", "isHearerHere", "()Z"⟩ ∈ gw := gw_t6 222 rfl rfl
theorem kw1424 : Cond.instanceMethod ⟨"LanternStateModel", "isHearerHere", "()Z"⟩ ∈ gw := gw_t6 224 rfl rfl
theorem kw1425 : Cond.code ⟨"LanternStateModel", "isHearerHere", "()Z"⟩ prog_13_method_33_code 1 (some FieldType.boolean) ∈ gw := gw_t6 225 rfl rfl
theorem kw1426 : Cond.methodLink "LanternStateModel" 165 ⟨"LanternStateModel", "isOne", "(II)Z"⟩ ∈ gw := gw_t6 226 rfl rfl
theorem kw1428 : Cond.instanceMethod ⟨"LanternStateModel", "isOne", "(II)Z"⟩ ∈ gw := gw_t6 228 rfl rfl
theorem kw1429 : Cond.code ⟨"LanternStateModel", "isOne", "(II)Z"⟩ prog_13_method_31_code 3 (some FieldType.boolean) ∈ gw := gw_t6 229 rfl rfl
theorem kw1430 : Cond.methodLink "LanternStateModel" 195 ⟨"LanternStateModel", "has", "(II)Z"⟩ ∈ gw := gw_t6 230 rfl rfl
theorem kw1431 : Cond.static ⟨"LanternStateModel", "has", "(II)Z"⟩ ∈ gw := gw_t6 231 rfl rfl
theorem kw1432 : Cond.code ⟨"LanternStateModel", "has", "(II)Z"⟩ prog_13_method_8_code 2 (some FieldType.boolean) ∈ gw := gw_t6 232 rfl rfl
theorem kw1433 : Cond.methodLink "LanternStateModel" 210 ⟨"LanternStateModel", "readNear", "()Z"⟩ ∈ gw := gw_t6 233 rfl rfl
theorem kw1435 : Cond.instanceMethod ⟨"LanternStateModel", "readNear", "()Z"⟩ ∈ gw := gw_t6 235 rfl rfl
theorem kw1436 : Cond.code ⟨"LanternStateModel", "readNear", "()Z"⟩ prog_13_method_41_code 2 (some FieldType.boolean) ∈ gw := gw_t6 236 rfl rfl
theorem kw1437 : Cond.methodLink "LanternStateModel" 213 ⟨"LanternStateModel", "readAfter", "()Z"⟩ ∈ gw := gw_t6 237 rfl rfl
theorem kw1439 : Cond.instanceMethod ⟨"LanternStateModel", "readAfter", "()Z"⟩ ∈ gw := gw_t6 239 rfl rfl
theorem kw1440 : Cond.code ⟨"LanternStateModel", "readAfter", "()Z"⟩ prog_13_method_42_code 2 (some FieldType.boolean) ∈ gw := gw_t7 0 rfl rfl
theorem kw1441 : Cond.methodLink "LanternStateModel" 198 ⟨"LanternStateModel", "isSlideHere", "()Z"⟩ ∈ gw := gw_t7 1 rfl rfl
theorem kw1443 : Cond.instanceMethod ⟨"LanternStateModel", "isSlideHere", "()Z"⟩ ∈ gw := gw_t7 3 rfl rfl
theorem kw1444 : Cond.code ⟨"LanternStateModel", "isSlideHere", "()Z"⟩ prog_13_method_32_code 1 (some FieldType.boolean) ∈ gw := gw_t7 4 rfl rfl
theorem kw1445 : Cond.methodLink "LanternStateModel" 216 ⟨"LanternStateModel", "isFresh", "(I)Z"⟩ ∈ gw := gw_t7 5 rfl rfl
theorem kw1447 : Cond.instanceMethod ⟨"LanternStateModel", "isFresh", "(I)Z"⟩ ∈ gw := gw_t7 7 rfl rfl
theorem kw1448 : Cond.code ⟨"LanternStateModel", "isFresh", "(I)Z"⟩ prog_13_method_37_code 2 (some FieldType.boolean) ∈ gw := gw_t7 8 rfl rfl
theorem kw1449 : Cond.methodLink "LanternStateModel" 225 ⟨"LanternStateModel", "readEnd", "()Z"⟩ ∈ gw := gw_t7 9 rfl rfl
theorem kw1451 : Cond.instanceMethod ⟨"LanternStateModel", "readEnd", "()Z"⟩ ∈ gw := gw_t7 11 rfl rfl
theorem kw1452 : Cond.code ⟨"LanternStateModel", "readEnd", "()Z"⟩ prog_13_method_24_code 1 (some FieldType.boolean) ∈ gw := gw_t7 12 rfl rfl
theorem kw1453 : Cond.methodLink "LanternStateModel" 86 ⟨"LanternStateModel", "isSign", "(I)Z"⟩ ∈ gw := gw_t7 13 rfl rfl
theorem kw1455 : Cond.instanceMethod ⟨"LanternStateModel", "isSign", "(I)Z"⟩ ∈ gw := gw_t7 15 rfl rfl
theorem kw1456 : Cond.code ⟨"LanternStateModel", "isSign", "(I)Z"⟩ prog_13_method_20_code 2 (some FieldType.boolean) ∈ gw := gw_t7 16 rfl rfl
theorem kw1457 : Cond.methodLink "LanternStateModel" 228 ⟨"LanternStateModel", "startSo", "()V"⟩ ∈ gw := gw_t7 17 rfl rfl
theorem kw1459 : Cond.instanceMethod ⟨"LanternStateModel", "startSo", "()V"⟩ ∈ gw := gw_t7 19 rfl rfl
theorem kw1460 : Cond.code ⟨"LanternStateModel", "startSo", "()V"⟩ prog_13_method_28_code 2 none ∈ gw := gw_t7 20 rfl rfl
theorem kw1461 : Cond.methodLink "LanternStateLaw" 40 ⟨"LanternStateModel", "fault", "()I"⟩ ∈ gw := gw_t7 21 rfl rfl
theorem kw1462 : Cond.instanceMethod ⟨"LanternStateModel", "fault", "()I"⟩ ∈ gw := gw_t7 22 rfl rfl
theorem kw1463 : Cond.selects "LanternStateModel" ⟨"LanternStateModel", "fault", "()I"⟩ ⟨"LanternStateModel", "fault", "()I"⟩ ∈ gw := gw_t7 23 rfl rfl
theorem kw1464 : Cond.code ⟨"LanternStateModel", "fault", "()I"⟩ prog_13_method_45_code 1 (some FieldType.int) ∈ gw := gw_t7 24 rfl rfl
theorem kw1465 : Cond.methodLink "LanternStateLaw" 46 ⟨"LanternStateModel", "slide", "(II)I"⟩ ∈ gw := gw_t7 25 rfl rfl
theorem kw1466 : Cond.instanceMethod ⟨"LanternStateModel", "slide", "(II)I"⟩ ∈ gw := gw_t7 26 rfl rfl
theorem kw1467 : Cond.selects "LanternStateModel" ⟨"LanternStateModel", "slide", "(II)I"⟩ ⟨"LanternStateModel", "slide", "(II)I"⟩ ∈ gw := gw_t7 27 rfl rfl
theorem kw1468 : Cond.code ⟨"LanternStateModel", "slide", "(II)I"⟩ prog_13_method_56_code 3 (some FieldType.int) ∈ gw := gw_t7 28 rfl rfl
theorem kw1469 : Cond.methodLink "LanternStateModel" 237 ⟨"LanternStateModel", "isSlide", "(I)Z"⟩ ∈ gw := gw_t7 29 rfl rfl
theorem kw1471 : Cond.instanceMethod ⟨"LanternStateModel", "isSlide", "(I)Z"⟩ ∈ gw := gw_t7 31 rfl rfl
theorem kw1472 : Cond.code ⟨"LanternStateModel", "isSlide", "(I)Z"⟩ prog_13_method_51_code 2 (some FieldType.boolean) ∈ gw := gw_t7 32 rfl rfl
theorem kw1473 : Cond.methodLink "LanternStateModel" 240 ⟨"LanternStateModel", "refuse", "()I"⟩ ∈ gw := gw_t7 33 rfl rfl
theorem kw1475 : Cond.instanceMethod ⟨"LanternStateModel", "refuse", "()I"⟩ ∈ gw := gw_t7 35 rfl rfl
theorem kw1476 : Cond.code ⟨"LanternStateModel", "refuse", "()I"⟩ prog_13_method_2_code 1 (some FieldType.int) ∈ gw := gw_t7 36 rfl rfl
theorem kw1477 : Cond.methodLink "LanternStateModel" 243 ⟨"LanternStateModel", "rowOf", "(II)I"⟩ ∈ gw := gw_t7 37 rfl rfl
theorem kw1478 : Cond.static ⟨"LanternStateModel", "rowOf", "(II)I"⟩ ∈ gw := gw_t7 38 rfl rfl
theorem kw1479 : Cond.code ⟨"LanternStateModel", "rowOf", "(II)I"⟩ prog_13_method_47_code 4 (some FieldType.int) ∈ gw := gw_t7 39 rfl rfl
theorem kw1480 : Cond.methodLink "LanternStateModel" 246 ⟨"LanternStateModel", "isSo", "(I)Z"⟩ ∈ gw := gw_t7 40 rfl rfl
theorem kw1482 : Cond.instanceMethod ⟨"LanternStateModel", "isSo", "(I)Z"⟩ ∈ gw := gw_t7 42 rfl rfl
theorem kw1483 : Cond.code ⟨"LanternStateModel", "isSo", "(I)Z"⟩ prog_13_method_54_code 2 (some FieldType.boolean) ∈ gw := gw_t7 43 rfl rfl
theorem kw1484 : Cond.methodLink "LanternStateModel" 249 ⟨"LanternStateModel", "isCracked", "(I)Z"⟩ ∈ gw := gw_t7 44 rfl rfl
theorem kw1486 : Cond.instanceMethod ⟨"LanternStateModel", "isCracked", "(I)Z"⟩ ∈ gw := gw_t7 46 rfl rfl
theorem kw1487 : Cond.code ⟨"LanternStateModel", "isCracked", "(I)Z"⟩ prog_13_method_53_code 2 (some FieldType.boolean) ∈ gw := gw_t7 47 rfl rfl
theorem kw1488 : Cond.methodLink "LanternStateModel" 252 ⟨"LanternStateModel", "bits", "(I)I"⟩ ∈ gw := gw_t7 48 rfl rfl
theorem kw1489 : Cond.static ⟨"LanternStateModel", "bits", "(I)I"⟩ ∈ gw := gw_t7 49 rfl rfl
theorem kw1490 : Cond.code ⟨"LanternStateModel", "bits", "(I)I"⟩ prog_13_method_9_code 3 (some FieldType.int) ∈ gw := gw_t7 50 rfl rfl
theorem kw1491 : Cond.methodLink "LanternStateLaw" 54 ⟨"LanternStateModel", "row", "(IIII)I"⟩ ∈ gw := gw_t7 51 rfl rfl
theorem kw1492 : Cond.instanceMethod ⟨"LanternStateModel", "row", "(IIII)I"⟩ ∈ gw := gw_t7 52 rfl rfl
theorem kw1493 : Cond.selects "LanternStateModel" ⟨"LanternStateModel", "row", "(IIII)I"⟩ ⟨"LanternStateModel", "row", "(IIII)I"⟩ ∈ gw := gw_t7 53 rfl rfl
theorem kw1494 : Cond.code ⟨"LanternStateModel", "row", "(IIII)I"⟩ prog_13_method_57_code 5 (some FieldType.int) ∈ gw := gw_t7 54 rfl rfl
theorem kw1495 : Cond.methodLink "LanternStateModel" 234 ⟨"LanternStateModel", "turned", "(II)I"⟩ ∈ gw := gw_t7 55 rfl rfl
theorem kw1496 : Cond.static ⟨"LanternStateModel", "turned", "(II)I"⟩ ∈ gw := gw_t7 56 rfl rfl
theorem kw1497 : Cond.code ⟨"LanternStateModel", "turned", "(II)I"⟩ prog_13_method_48_code 7 (some FieldType.int) ∈ gw := gw_t7 57 rfl rfl
theorem kw1498 : Cond.methodLink "LanternStateModel" 255 ⟨"LanternStateModel", "seenFrom", "(II)I"⟩ ∈ gw := gw_t7 58 rfl rfl
theorem kw1499 : Cond.static ⟨"LanternStateModel", "seenFrom", "(II)I"⟩ ∈ gw := gw_t7 59 rfl rfl
theorem kw1500 : Cond.code ⟨"LanternStateModel", "seenFrom", "(II)I"⟩ prog_13_method_49_code 2 (some FieldType.int) ∈ gw := gw_t7 60 rfl rfl
theorem kw1501 : Cond.methodLink "LanternStateLaw" 57 ⟨"LanternStateModel", "hearer", "(II)I"⟩ ∈ gw := gw_t7 61 rfl rfl
theorem kw1502 : Cond.instanceMethod ⟨"LanternStateModel", "hearer", "(II)I"⟩ ∈ gw := gw_t7 62 rfl rfl
theorem kw1503 : Cond.selects "LanternStateModel" ⟨"LanternStateModel", "hearer", "(II)I"⟩ ⟨"LanternStateModel", "hearer", "(II)I"⟩ ∈ gw := gw_t7 63 rfl rfl
theorem kw1504 : Cond.code ⟨"LanternStateModel", "hearer", "(II)I"⟩ prog_13_method_58_code 3 (some FieldType.int) ∈ gw := gw_t7 64 rfl rfl
theorem kw1505 : Cond.methodLink "LanternStateModel" 258 ⟨"LanternStateModel", "isHearer", "(I)Z"⟩ ∈ gw := gw_t7 65 rfl rfl
theorem kw1507 : Cond.instanceMethod ⟨"LanternStateModel", "isHearer", "(I)Z"⟩ ∈ gw := gw_t7 67 rfl rfl
theorem kw1508 : Cond.code ⟨"LanternStateModel", "isHearer", "(I)Z"⟩ prog_13_method_52_code 2 (some FieldType.boolean) ∈ gw := gw_t7 68 rfl rfl
theorem kw1509 : Cond.methodLink "LanternStateLaw" 62 ⟨"LanternStateModel", "thinks", "(III)I"⟩ ∈ gw := gw_t7 69 rfl rfl
theorem kw1510 : Cond.instanceMethod ⟨"LanternStateModel", "thinks", "(III)I"⟩ ∈ gw := gw_t7 70 rfl rfl
theorem kw1511 : Cond.selects "LanternStateModel" ⟨"LanternStateModel", "thinks", "(III)I"⟩ ⟨"LanternStateModel", "thinks", "(III)I"⟩ ∈ gw := gw_t7 71 rfl rfl
theorem kw1512 : Cond.code ⟨"LanternStateModel", "thinks", "(III)I"⟩ prog_13_method_59_code 5 (some FieldType.int) ∈ gw := gw_t7 72 rfl rfl
theorem kw1513 : Cond.methodLink "LanternStateLaw" 67 ⟨"LanternStateModel", "now", "(I)I"⟩ ∈ gw := gw_t7 73 rfl rfl
theorem kw1514 : Cond.instanceMethod ⟨"LanternStateModel", "now", "(I)I"⟩ ∈ gw := gw_t7 74 rfl rfl
theorem kw1515 : Cond.selects "LanternStateModel" ⟨"LanternStateModel", "now", "(I)I"⟩ ⟨"LanternStateModel", "now", "(I)I"⟩ ∈ gw := gw_t7 75 rfl rfl
theorem kw1516 : Cond.code ⟨"LanternStateModel", "now", "(I)I"⟩ prog_13_method_61_code 2 (some FieldType.int) ∈ gw := gw_t7 76 rfl rfl
theorem kw1517 : Cond.methodLink "LanternStateModel" 261 ⟨"LanternStateModel", "seats", "()I"⟩ ∈ gw := gw_t7 77 rfl rfl
theorem kw1519 : Cond.instanceMethod ⟨"LanternStateModel", "seats", "()I"⟩ ∈ gw := gw_t7 79 rfl rfl
theorem kw1520 : Cond.code ⟨"LanternStateModel", "seats", "()I"⟩ prog_13_method_55_code 3 (some FieldType.int) ∈ gw := gw_t7 80 rfl rfl
theorem kw1521 : Cond.methodLink "LanternStateModel" 264 ⟨"LanternStateModel", "allSighs", "()I"⟩ ∈ gw := gw_t7 81 rfl rfl
theorem kw1523 : Cond.instanceMethod ⟨"LanternStateModel", "allSighs", "()I"⟩ ∈ gw := gw_t7 83 rfl rfl
theorem kw1524 : Cond.code ⟨"LanternStateModel", "allSighs", "()I"⟩ prog_13_method_60_code 3 (some FieldType.int) ∈ gw := gw_t7 84 rfl rfl
theorem kw1525 : Cond.methodLink "LanternStateLaw" 95 ⟨"LanternStateModel", "sighs", "(II)I"⟩ ∈ gw := gw_t7 85 rfl rfl
theorem kw1526 : Cond.instanceMethod ⟨"LanternStateModel", "sighs", "(II)I"⟩ ∈ gw := gw_t7 86 rfl rfl
theorem kw1527 : Cond.selects "LanternStateModel" ⟨"LanternStateModel", "sighs", "(II)I"⟩ ⟨"LanternStateModel", "sighs", "(II)I"⟩ ∈ gw := gw_t7 87 rfl rfl
theorem kw1528 : Cond.code ⟨"LanternStateModel", "sighs", "(II)I"⟩ prog_13_method_66_code 3 (some FieldType.int) ∈ gw := gw_t7 88 rfl rfl
theorem kw1529 : Cond.methodLink "LanternStateModel" 276 ⟨"LanternStateModel", "sighsFor", "(II)I"⟩ ∈ gw := gw_t7 89 rfl rfl
theorem kw1531 : Cond.instanceMethod ⟨"LanternStateModel", "sighsFor", "(II)I"⟩ ∈ gw := gw_t7 91 rfl rfl
theorem kw1532 : Cond.code ⟨"LanternStateModel", "sighsFor", "(II)I"⟩ prog_13_method_65_code 3 (some FieldType.int) ∈ gw := gw_t7 92 rfl rfl
theorem kw1533 : Cond.methodLink "LanternStateModel" 273 ⟨"LanternStateModel", "sighsBy", "(II)I"⟩ ∈ gw := gw_t7 93 rfl rfl
theorem kw1535 : Cond.instanceMethod ⟨"LanternStateModel", "sighsBy", "(II)I"⟩ ∈ gw := gw_t7 95 rfl rfl
theorem kw1536 : Cond.code ⟨"LanternStateModel", "sighsBy", "(II)I"⟩ prog_13_method_64_code 6 (some FieldType.int) ∈ gw := gw_t7 96 rfl rfl
theorem kw1537 : Cond.methodLink "LanternStateModel" 267 ⟨"LanternStateModel", "sighsAlone", "(II)Z"⟩ ∈ gw := gw_t7 97 rfl rfl
theorem kw1539 : Cond.instanceMethod ⟨"LanternStateModel", "sighsAlone", "(II)Z"⟩ ∈ gw := gw_t7 99 rfl rfl
theorem kw1540 : Cond.code ⟨"LanternStateModel", "sighsAlone", "(II)Z"⟩ prog_13_method_62_code 3 (some FieldType.boolean) ∈ gw := gw_t7 100 rfl rfl
theorem kw1541 : Cond.methodLink "LanternStateModel" 270 ⟨"LanternStateModel", "spreadFrom", "(I)I"⟩ ∈ gw := gw_t7 101 rfl rfl
theorem kw1543 : Cond.instanceMethod ⟨"LanternStateModel", "spreadFrom", "(I)I"⟩ ∈ gw := gw_t7 103 rfl rfl
theorem kw1544 : Cond.code ⟨"LanternStateModel", "spreadFrom", "(I)I"⟩ prog_13_method_63_code 6 (some FieldType.int) ∈ gw := gw_t7 104 rfl rfl
theorem kw1545 : Cond.methodLink "LanternStateLaw" 99 ⟨"LanternStateModel", "best", "(I)I"⟩ ∈ gw := gw_t7 105 rfl rfl
theorem kw1546 : Cond.instanceMethod ⟨"LanternStateModel", "best", "(I)I"⟩ ∈ gw := gw_t7 106 rfl rfl
theorem kw1547 : Cond.selects "LanternStateModel" ⟨"LanternStateModel", "best", "(I)I"⟩ ⟨"LanternStateModel", "best", "(I)I"⟩ ∈ gw := gw_t7 107 rfl rfl
theorem kw1548 : Cond.code ⟨"LanternStateModel", "best", "(I)I"⟩ prog_13_method_67_code 4 (some FieldType.int) ∈ gw := gw_t7 108 rfl rfl
theorem kw1549 : Cond.methodLink "LanternStateLaw" 103 ⟨"LanternStateModel", "spreads", "(I)I"⟩ ∈ gw := gw_t7 109 rfl rfl
theorem kw1550 : Cond.instanceMethod ⟨"LanternStateModel", "spreads", "(I)I"⟩ ∈ gw := gw_t7 110 rfl rfl
theorem kw1551 : Cond.selects "LanternStateModel" ⟨"LanternStateModel", "spreads", "(I)I"⟩ ⟨"LanternStateModel", "spreads", "(I)I"⟩ ∈ gw := gw_t7 111 rfl rfl
theorem kw1552 : Cond.code ⟨"LanternStateModel", "spreads", "(I)I"⟩ prog_13_method_68_code 2 (some FieldType.int) ∈ gw := gw_t7 112 rfl rfl
theorem kw1553 : Cond.methodLink "LanternStateLaw" 71 ⟨"LanternStateModel", "show", "(II)I"⟩ ∈ gw := gw_t7 113 rfl rfl
theorem kw1554 : Cond.instanceMethod ⟨"LanternStateModel", "show", "(II)I"⟩ ∈ gw := gw_t7 114 rfl rfl
theorem kw1555 : Cond.selects "LanternStateModel" ⟨"LanternStateModel", "show", "(II)I"⟩ ⟨"LanternStateModel", "show", "(II)I"⟩ ∈ gw := gw_t7 115 rfl rfl
theorem kw1556 : Cond.code ⟨"LanternStateModel", "show", "(II)I"⟩ prog_13_method_74_code 4 (some FieldType.int) ∈ gw := gw_t7 116 rfl rfl
theorem kw1557 : Cond.methodLink "LanternStateModel" 285 ⟨"LanternStateModel", "why", "(III)I"⟩ ∈ gw := gw_t7 117 rfl rfl
theorem kw1559 : Cond.instanceMethod ⟨"LanternStateModel", "why", "(III)I"⟩ ∈ gw := gw_t7 119 rfl rfl
theorem kw1560 : Cond.code ⟨"LanternStateModel", "why", "(III)I"⟩ prog_13_method_71_code 4 (some FieldType.int) ∈ gw := gw_t7 120 rfl rfl
theorem kw1561 : Cond.methodLink "LanternStateModel" 279 ⟨"LanternStateModel", "waits", "(I)Z"⟩ ∈ gw := gw_t7 121 rfl rfl
theorem kw1563 : Cond.instanceMethod ⟨"LanternStateModel", "waits", "(I)Z"⟩ ∈ gw := gw_t7 123 rfl rfl
theorem kw1564 : Cond.code ⟨"LanternStateModel", "waits", "(I)Z"⟩ prog_13_method_70_code 2 (some FieldType.boolean) ∈ gw := gw_t7 124 rfl rfl
theorem kw1565 : Cond.methodLink "LanternStateModel" 289 ⟨"LanternStateModel", "snap", "()V"⟩ ∈ gw := gw_t7 125 rfl rfl
theorem kw1567 : Cond.instanceMethod ⟨"LanternStateModel", "snap", "()V"⟩ ∈ gw := gw_t7 127 rfl rfl
theorem kw1568 : Cond.code ⟨"LanternStateModel", "snap", "()V"⟩ prog_13_method_69_code 2 none ∈ gw := gw_t7 128 rfl rfl
theorem kw1569 : Cond.methodLink "LanternStateModel" 292 ⟨"LanternStateModel", "live", "(III)I"⟩ ∈ gw := gw_t7 129 rfl rfl
theorem kw1571 : Cond.instanceMethod ⟨"LanternStateModel", "live", "(III)I"⟩ ∈ gw := gw_t7 131 rfl rfl
theorem kw1572 : Cond.code ⟨"LanternStateModel", "live", "(III)I"⟩ prog_13_method_73_code 4 (some FieldType.int) ∈ gw := gw_t7 132 rfl rfl
theorem kw1573 : Cond.methodLink "LanternStateModel" 282 ⟨"LanternStateModel", "light", "(II)I"⟩ ∈ gw := gw_t7 133 rfl rfl
theorem kw1575 : Cond.instanceMethod ⟨"LanternStateModel", "light", "(II)I"⟩ ∈ gw := gw_t7 135 rfl rfl
theorem kw1576 : Cond.code ⟨"LanternStateModel", "light", "(II)I"⟩ prog_13_method_72_code 5 (some FieldType.int) ∈ gw := gw_t7 136 rfl rfl
theorem kw1577 : Cond.methodLink "LanternStateLaw" 75 ⟨"LanternStateModel", "over", "(II)I"⟩ ∈ gw := gw_t7 137 rfl rfl
theorem kw1578 : Cond.instanceMethod ⟨"LanternStateModel", "over", "(II)I"⟩ ∈ gw := gw_t7 138 rfl rfl
theorem kw1579 : Cond.selects "LanternStateModel" ⟨"LanternStateModel", "over", "(II)I"⟩ ⟨"LanternStateModel", "over", "(II)I"⟩ ∈ gw := gw_t7 139 rfl rfl
theorem kw1580 : Cond.code ⟨"LanternStateModel", "over", "(II)I"⟩ prog_13_method_75_code 4 (some FieldType.int) ∈ gw := gw_t7 140 rfl rfl
theorem kw1581 : Cond.methodLink "LanternStateLaw" 79 ⟨"LanternStateModel", "scratch", "(III)I"⟩ ∈ gw := gw_t7 141 rfl rfl
theorem kw1582 : Cond.instanceMethod ⟨"LanternStateModel", "scratch", "(III)I"⟩ ∈ gw := gw_t7 142 rfl rfl
theorem kw1583 : Cond.selects "LanternStateModel" ⟨"LanternStateModel", "scratch", "(III)I"⟩ ⟨"LanternStateModel", "scratch", "(III)I"⟩ ∈ gw := gw_t7 143 rfl rfl
theorem kw1584 : Cond.code ⟨"LanternStateModel", "scratch", "(III)I"⟩ prog_13_method_77_code 4 (some FieldType.int) ∈ gw := gw_t7 144 rfl rfl
theorem kw1585 : Cond.methodLink "LanternStateModel" 295 ⟨"LanternStateModel", "act", "(III)I"⟩ ∈ gw := gw_t7 145 rfl rfl
theorem kw1587 : Cond.instanceMethod ⟨"LanternStateModel", "act", "(III)I"⟩ ∈ gw := gw_t7 147 rfl rfl
theorem kw1588 : Cond.code ⟨"LanternStateModel", "act", "(III)I"⟩ prog_13_method_76_code 5 (some FieldType.int) ∈ gw := gw_t7 148 rfl rfl
theorem kw1589 : Cond.methodLink "LanternStateLaw" 83 ⟨"LanternStateModel", "sit", "(II)I"⟩ ∈ gw := gw_t7 149 rfl rfl
theorem kw1590 : Cond.instanceMethod ⟨"LanternStateModel", "sit", "(II)I"⟩ ∈ gw := gw_t7 150 rfl rfl
theorem kw1591 : Cond.selects "LanternStateModel" ⟨"LanternStateModel", "sit", "(II)I"⟩ ⟨"LanternStateModel", "sit", "(II)I"⟩ ∈ gw := gw_t7 151 rfl rfl
theorem kw1592 : Cond.code ⟨"LanternStateModel", "sit", "(II)I"⟩ prog_13_method_78_code 3 (some FieldType.int) ∈ gw := gw_t7 152 rfl rfl
theorem kw1593 : Cond.methodLink "LanternStateLaw" 91 ⟨"LanternStateModel", "undo", "()I"⟩ ∈ gw := gw_t7 153 rfl rfl
theorem kw1594 : Cond.instanceMethod ⟨"LanternStateModel", "undo", "()I"⟩ ∈ gw := gw_t7 154 rfl rfl
theorem kw1595 : Cond.selects "LanternStateModel" ⟨"LanternStateModel", "undo", "()I"⟩ ⟨"LanternStateModel", "undo", "()I"⟩ ∈ gw := gw_t7 155 rfl rfl
theorem kw1596 : Cond.code ⟨"LanternStateModel", "undo", "()I"⟩ prog_13_method_79_code 2 (some FieldType.int) ∈ gw := gw_t7 156 rfl rfl
theorem kw1597 : Cond.methodLink "LanternStateLaw" 87 ⟨"LanternStateModel", "hours", "(I)I"⟩ ∈ gw := gw_t7 157 rfl rfl
theorem kw1598 : Cond.instanceMethod ⟨"LanternStateModel", "hours", "(I)I"⟩ ∈ gw := gw_t7 158 rfl rfl
theorem kw1599 : Cond.selects "LanternStateModel" ⟨"LanternStateModel", "hours", "(I)I"⟩ ⟨"LanternStateModel", "hours", "(I)I"⟩ ∈ gw := gw_t7 159 rfl rfl
theorem kw1600 : Cond.code ⟨"LanternStateModel", "hours", "(I)I"⟩ prog_13_method_82_code 2 (some FieldType.int) ∈ gw := gw_t7 160 rfl rfl
theorem kw1601 : Cond.methodLink "LanternStateModel" 304 ⟨"LanternStateModel", "passHours", "(I)I"⟩ ∈ gw := gw_t7 161 rfl rfl
theorem kw1603 : Cond.instanceMethod ⟨"LanternStateModel", "passHours", "(I)I"⟩ ∈ gw := gw_t7 163 rfl rfl
theorem kw1604 : Cond.code ⟨"LanternStateModel", "passHours", "(I)I"⟩ prog_13_method_81_code 4 (some FieldType.int) ∈ gw := gw_t7 164 rfl rfl
theorem kw1605 : Cond.methodLink "LanternStateModel" 298 ⟨"LanternStateModel", "least", "(II)I"⟩ ∈ gw := gw_t7 165 rfl rfl
theorem kw1606 : Cond.static ⟨"LanternStateModel", "least", "(II)I"⟩ ∈ gw := gw_t7 166 rfl rfl
theorem kw1607 : Cond.code ⟨"LanternStateModel", "least", "(II)I"⟩ prog_13_method_10_code 2 (some FieldType.int) ∈ gw := gw_t7 167 rfl rfl
theorem kw1608 : Cond.methodLink "LanternStateModel" 301 ⟨"LanternStateModel", "oneHour", "()V"⟩ ∈ gw := gw_t7 168 rfl rfl
theorem kw1610 : Cond.instanceMethod ⟨"LanternStateModel", "oneHour", "()V"⟩ ∈ gw := gw_t7 170 rfl rfl
theorem kw1611 : Cond.code ⟨"LanternStateModel", "oneHour", "()V"⟩ prog_13_method_80_code 1 none ∈ gw := gw_t7 171 rfl rfl
theorem kw1612 : Cond.methodLink "LanternStateLaw" 107 ⟨"LanternStateModel", "order", "()I"⟩ ∈ gw := gw_t7 172 rfl rfl
theorem kw1613 : Cond.instanceMethod ⟨"LanternStateModel", "order", "()I"⟩ ∈ gw := gw_t7 173 rfl rfl
theorem kw1614 : Cond.selects "LanternStateModel" ⟨"LanternStateModel", "order", "()I"⟩ ⟨"LanternStateModel", "order", "()I"⟩ ∈ gw := gw_t7 174 rfl rfl
theorem kw1615 : Cond.code ⟨"LanternStateModel", "order", "()I"⟩ prog_13_method_85_code 2 (some FieldType.int) ∈ gw := gw_t7 175 rfl rfl
theorem kw1616 : Cond.methodLink "LanternStateModel" 313 ⟨"LanternStateModel", "endOrder", "(II)V"⟩ ∈ gw := gw_t7 176 rfl rfl
theorem kw1618 : Cond.instanceMethod ⟨"LanternStateModel", "endOrder", "(II)V"⟩ ∈ gw := gw_t7 178 rfl rfl
theorem kw1619 : Cond.code ⟨"LanternStateModel", "endOrder", "(II)V"⟩ prog_13_method_83_code 4 none ∈ gw := gw_t7 179 rfl rfl
theorem kw1620 : Cond.methodLink "LanternStateModel" 320 ⟨"LanternStateModel", "orderFrom", "(IIIII)V"⟩ ∈ gw := gw_t7 180 rfl rfl
theorem kw1622 : Cond.instanceMethod ⟨"LanternStateModel", "orderFrom", "(IIIII)V"⟩ ∈ gw := gw_t7 182 rfl rfl
theorem kw1623 : Cond.code ⟨"LanternStateModel", "orderFrom", "(IIIII)V"⟩ prog_13_method_84_code 10 none ∈ gw := gw_t7 183 rfl rfl
theorem kw1624 : Cond.methodLink "LanternStateLaw" 111 ⟨"LanternStateModel", "orderAt", "(I)I"⟩ ∈ gw := gw_t7 184 rfl rfl
theorem kw1625 : Cond.instanceMethod ⟨"LanternStateModel", "orderAt", "(I)I"⟩ ∈ gw := gw_t7 185 rfl rfl
theorem kw1626 : Cond.selects "LanternStateModel" ⟨"LanternStateModel", "orderAt", "(I)I"⟩ ⟨"LanternStateModel", "orderAt", "(I)I"⟩ ∈ gw := gw_t7 186 rfl rfl
theorem kw1627 : Cond.code ⟨"LanternStateModel", "orderAt", "(I)I"⟩ prog_13_method_86_code 2 (some FieldType.int) ∈ gw := gw_t7 187 rfl rfl
theorem kw1628 : Cond.methodLink "LanternStateLaw" 115 ⟨"LanternStateModel", "moved", "(II)I"⟩ ∈ gw := gw_t7 188 rfl rfl
theorem kw1629 : Cond.instanceMethod ⟨"LanternStateModel", "moved", "(II)I"⟩ ∈ gw := gw_t7 189 rfl rfl
theorem kw1630 : Cond.selects "LanternStateModel" ⟨"LanternStateModel", "moved", "(II)I"⟩ ⟨"LanternStateModel", "moved", "(II)I"⟩ ∈ gw := gw_t7 190 rfl rfl
theorem kw1631 : Cond.code ⟨"LanternStateModel", "moved", "(II)I"⟩ prog_13_method_87_code 6 (some FieldType.int) ∈ gw := gw_t7 191 rfl rfl
theorem kw1632 : Cond.methodLink "LanternStateLaw" 119 ⟨"LanternStateModel", "movedWho", "()I"⟩ ∈ gw := gw_t7 192 rfl rfl
theorem kw1633 : Cond.instanceMethod ⟨"LanternStateModel", "movedWho", "()I"⟩ ∈ gw := gw_t7 193 rfl rfl
theorem kw1634 : Cond.selects "LanternStateModel" ⟨"LanternStateModel", "movedWho", "()I"⟩ ⟨"LanternStateModel", "movedWho", "()I"⟩ ∈ gw := gw_t7 194 rfl rfl
theorem kw1635 : Cond.code ⟨"LanternStateModel", "movedWho", "()I"⟩ prog_13_method_88_code 1 (some FieldType.int) ∈ gw := gw_t7 195 rfl rfl
theorem kw1636 : Cond.methodLink "LanternStateLaw" 123 ⟨"LanternStateModel", "scratches", "(I)I"⟩ ∈ gw := gw_t7 196 rfl rfl
theorem kw1637 : Cond.instanceMethod ⟨"LanternStateModel", "scratches", "(I)I"⟩ ∈ gw := gw_t7 197 rfl rfl
theorem kw1638 : Cond.selects "LanternStateModel" ⟨"LanternStateModel", "scratches", "(I)I"⟩ ⟨"LanternStateModel", "scratches", "(I)I"⟩ ∈ gw := gw_t7 198 rfl rfl
theorem kw1639 : Cond.code ⟨"LanternStateModel", "scratches", "(I)I"⟩ prog_13_method_89_code 5 (some FieldType.int) ∈ gw := gw_t7 199 rfl rfl
theorem kw1640 : Cond.constant "LanternStateModel" 324 (65536) ∈ gw := gw_t7 200 rfl rfl
theorem kw1641 : Cond.methodLink "LanternStateLaw" 127 ⟨"LanternStateModel", "scratched", "()I"⟩ ∈ gw := gw_t7 201 rfl rfl
theorem kw1642 : Cond.instanceMethod ⟨"LanternStateModel", "scratched", "()I"⟩ ∈ gw := gw_t7 202 rfl rfl
theorem kw1643 : Cond.selects "LanternStateModel" ⟨"LanternStateModel", "scratched", "()I"⟩ ⟨"LanternStateModel", "scratched", "()I"⟩ ∈ gw := gw_t7 203 rfl rfl
theorem kw1644 : Cond.code ⟨"LanternStateModel", "scratched", "()I"⟩ prog_13_method_90_code 1 (some FieldType.int) ∈ gw := gw_t7 204 rfl rfl
theorem kw1645 : Cond.methodLink "LanternStateLaw" 131 ⟨"LanternStateModel", "seen", "()I"⟩ ∈ gw := gw_t7 205 rfl rfl
theorem kw1646 : Cond.instanceMethod ⟨"LanternStateModel", "seen", "()I"⟩ ∈ gw := gw_t7 206 rfl rfl
theorem kw1647 : Cond.selects "LanternStateModel" ⟨"LanternStateModel", "seen", "()I"⟩ ⟨"LanternStateModel", "seen", "()I"⟩ ∈ gw := gw_t7 207 rfl rfl
theorem kw1648 : Cond.code ⟨"LanternStateModel", "seen", "()I"⟩ prog_13_method_91_code 7 (some FieldType.int) ∈ gw := gw_t7 208 rfl rfl
theorem kw1649 : Cond.methodLink "LanternStateLaw" 135 ⟨"LanternStateModel", "alike", "(I)I"⟩ ∈ gw := gw_t7 209 rfl rfl
theorem kw1650 : Cond.instanceMethod ⟨"LanternStateModel", "alike", "(I)I"⟩ ∈ gw := gw_t7 210 rfl rfl
theorem kw1651 : Cond.selects "LanternStateModel" ⟨"LanternStateModel", "alike", "(I)I"⟩ ⟨"LanternStateModel", "alike", "(I)I"⟩ ∈ gw := gw_t7 211 rfl rfl
theorem kw1652 : Cond.code ⟨"LanternStateModel", "alike", "(I)I"⟩ prog_13_method_92_code 4 (some FieldType.int) ∈ gw := gw_t7 212 rfl rfl
theorem kw1653 : Cond.methodLink "LanternStateModel" 325 ⟨"LanternStateModel", "looksLike", "(II)Z"⟩ ∈ gw := gw_t7 213 rfl rfl
theorem kw1654 : Cond.static ⟨"LanternStateModel", "looksLike", "(II)Z"⟩ ∈ gw := gw_t7 214 rfl rfl
theorem kw1655 : Cond.code ⟨"LanternStateModel", "looksLike", "(II)Z"⟩ prog_13_method_50_code 3 (some FieldType.boolean) ∈ gw := gw_t7 215 rfl rfl
theorem kw1656 : Cond.methodLink "LanternStateLaw" 139 ⟨"LanternStateModel", "differ", "(II)I"⟩ ∈ gw := gw_t7 216 rfl rfl
theorem kw1657 : Cond.instanceMethod ⟨"LanternStateModel", "differ", "(II)I"⟩ ∈ gw := gw_t7 217 rfl rfl
theorem kw1658 : Cond.selects "LanternStateModel" ⟨"LanternStateModel", "differ", "(II)I"⟩ ⟨"LanternStateModel", "differ", "(II)I"⟩ ∈ gw := gw_t7 218 rfl rfl
theorem kw1659 : Cond.code ⟨"LanternStateModel", "differ", "(II)I"⟩ prog_13_method_93_code 3 (some FieldType.int) ∈ gw := gw_t7 219 rfl rfl
theorem kw1660 : Cond.methodLink "LanternStateLaw" 143 ⟨"LanternStateModel", "parts", "()I"⟩ ∈ gw := gw_t7 220 rfl rfl
theorem kw1661 : Cond.instanceMethod ⟨"LanternStateModel", "parts", "()I"⟩ ∈ gw := gw_t7 221 rfl rfl
theorem kw1662 : Cond.selects "LanternStateModel" ⟨"LanternStateModel", "parts", "()I"⟩ ⟨"LanternStateModel", "parts", "()I"⟩ ∈ gw := gw_t7 222 rfl rfl
theorem kw1663 : Cond.code ⟨"LanternStateModel", "parts", "()I"⟩ prog_13_method_95_code 3 (some FieldType.int) ∈ gw := gw_t7 223 rfl rfl
theorem kw1664 : Cond.methodLink "LanternStateModel" 330 ⟨"LanternStateModel", "unevenBy", "(I)I"⟩ ∈ gw := gw_t7 224 rfl rfl
theorem kw1666 : Cond.instanceMethod ⟨"LanternStateModel", "unevenBy", "(I)I"⟩ ∈ gw := gw_t7 226 rfl rfl
theorem kw1667 : Cond.code ⟨"LanternStateModel", "unevenBy", "(I)I"⟩ prog_13_method_94_code 2 (some FieldType.int) ∈ gw := gw_t7 227 rfl rfl
theorem kw1668 : Cond.methodLink "LanternStateModel" 328 ⟨"LanternStateModel", "size", "(I)I"⟩ ∈ gw := gw_t7 228 rfl rfl
theorem kw1669 : Cond.static ⟨"LanternStateModel", "size", "(I)I"⟩ ∈ gw := gw_t7 229 rfl rfl
theorem kw1670 : Cond.code ⟨"LanternStateModel", "size", "(I)I"⟩ prog_13_method_11_code 1 (some FieldType.int) ∈ gw := gw_t7 230 rfl rfl
theorem kw1671 : Cond.methodLink "LanternStateLaw" 147 ⟨"LanternStateModel", "bill", "(I)I"⟩ ∈ gw := gw_t7 231 rfl rfl
theorem kw1672 : Cond.instanceMethod ⟨"LanternStateModel", "bill", "(I)I"⟩ ∈ gw := gw_t7 232 rfl rfl
theorem kw1673 : Cond.selects "LanternStateModel" ⟨"LanternStateModel", "bill", "(I)I"⟩ ⟨"LanternStateModel", "bill", "(I)I"⟩ ∈ gw := gw_t7 233 rfl rfl
theorem kw1674 : Cond.code ⟨"LanternStateModel", "bill", "(I)I"⟩ prog_13_method_99_code 2 (some FieldType.int) ∈ gw := gw_t7 234 rfl rfl
theorem kw1675 : Cond.methodLink "LanternStateModel" 336 ⟨"LanternStateModel", "writeWord", "(J)V"⟩ ∈ gw := gw_t7 235 rfl rfl
theorem kw1677 : Cond.instanceMethod ⟨"LanternStateModel", "writeWord", "(J)V"⟩ ∈ gw := gw_t7 237 rfl rfl
theorem kw1678 : Cond.code ⟨"LanternStateModel", "writeWord", "(J)V"⟩ prog_13_method_97_code 3 none ∈ gw := gw_t7 238 rfl rfl
theorem kw1679 : Cond.methodLink "LanternStateModel" 340 ⟨"LanternStateModel", "write", "(I)V"⟩ ∈ gw := gw_t7 239 rfl rfl
theorem kw1681 : Cond.instanceMethod ⟨"LanternStateModel", "write", "(I)V"⟩ ∈ gw := gw_t8 1 rfl rfl
theorem kw1682 : Cond.code ⟨"LanternStateModel", "write", "(I)V"⟩ prog_13_method_96_code 2 none ∈ gw := gw_t8 2 rfl rfl
theorem kw1683 : Cond.methodLink "LanternStateModel" 343 ⟨"LanternStateModel", "writeNext", "(J)V"⟩ ∈ gw := gw_t8 3 rfl rfl
theorem kw1685 : Cond.instanceMethod ⟨"LanternStateModel", "writeNext", "(J)V"⟩ ∈ gw := gw_t8 5 rfl rfl
theorem kw1686 : Cond.code ⟨"LanternStateModel", "writeNext", "(J)V"⟩ prog_13_method_98_code 3 none ∈ gw := gw_t8 6 rfl rfl
theorem kw1687 : Cond.methodLink "LanternStateLaw" 151 ⟨"LanternStateModel", "byteAt", "(I)I"⟩ ∈ gw := gw_t8 7 rfl rfl
theorem kw1688 : Cond.instanceMethod ⟨"LanternStateModel", "byteAt", "(I)I"⟩ ∈ gw := gw_t8 8 rfl rfl
theorem kw1689 : Cond.selects "LanternStateModel" ⟨"LanternStateModel", "byteAt", "(I)I"⟩ ⟨"LanternStateModel", "byteAt", "(I)I"⟩ ∈ gw := gw_t8 9 rfl rfl
theorem kw1690 : Cond.code ⟨"LanternStateModel", "byteAt", "(I)I"⟩ prog_13_method_100_code 2 (some FieldType.int) ∈ gw := gw_t8 10 rfl rfl
theorem kw1691 : Cond.methodLink "LanternStateLaw" 155 ⟨"LanternStateModel", "drawn", "(II)I"⟩ ∈ gw := gw_t8 11 rfl rfl
theorem kw1692 : Cond.instanceMethod ⟨"LanternStateModel", "drawn", "(II)I"⟩ ∈ gw := gw_t8 12 rfl rfl
theorem kw1693 : Cond.selects "LanternStateModel" ⟨"LanternStateModel", "drawn", "(II)I"⟩ ⟨"LanternStateModel", "drawn", "(II)I"⟩ ∈ gw := gw_t8 13 rfl rfl
theorem kw1694 : Cond.code ⟨"LanternStateModel", "drawn", "(II)I"⟩ prog_13_method_103_code 3 (some FieldType.int) ∈ gw := gw_t8 14 rfl rfl
theorem kw1695 : Cond.methodLink "LanternStateModel" 353 ⟨"LanternStateModel", "drawHours", "(II)I"⟩ ∈ gw := gw_t8 15 rfl rfl
theorem kw1697 : Cond.instanceMethod ⟨"LanternStateModel", "drawHours", "(II)I"⟩ ∈ gw := gw_t8 17 rfl rfl
theorem kw1698 : Cond.code ⟨"LanternStateModel", "drawHours", "(II)I"⟩ prog_13_method_102_code 8 (some FieldType.int) ∈ gw := gw_t8 18 rfl rfl
theorem kw1699 : Cond.methodLink "LanternStateModel" 350 ⟨"LanternStateModel", "draw", "(I)I"⟩ ∈ gw := gw_t8 19 rfl rfl
theorem kw1701 : Cond.instanceMethod ⟨"LanternStateModel", "draw", "(I)I"⟩ ∈ gw := gw_t8 21 rfl rfl
theorem kw1702 : Cond.code ⟨"LanternStateModel", "draw", "(I)I"⟩ prog_13_method_101_code 2 (some FieldType.int) ∈ gw := gw_t8 22 rfl rfl
theorem kw1703 : Cond.constant "LanternStateModel" 349 (1103515245) ∈ gw := gw_t8 23 rfl rfl
theorem kw1704 : Cond.methodLink "LanternStateLaw" 159 ⟨"LanternStateModel", "odds", "(III)I"⟩ ∈ gw := gw_t8 24 rfl rfl
theorem kw1705 : Cond.instanceMethod ⟨"LanternStateModel", "odds", "(III)I"⟩ ∈ gw := gw_t8 25 rfl rfl
theorem kw1706 : Cond.selects "LanternStateModel" ⟨"LanternStateModel", "odds", "(III)I"⟩ ⟨"LanternStateModel", "odds", "(III)I"⟩ ∈ gw := gw_t8 26 rfl rfl
theorem kw1707 : Cond.code ⟨"LanternStateModel", "odds", "(III)I"⟩ prog_13_method_106_code 6 (some FieldType.int) ∈ gw := gw_t8 27 rfl rfl
theorem kw1708 : Cond.methodLink "LanternStateModel" 356 ⟨"LanternStateModel", "layAside", "()V"⟩ ∈ gw := gw_t8 28 rfl rfl
theorem kw1710 : Cond.instanceMethod ⟨"LanternStateModel", "layAside", "()V"⟩ ∈ gw := gw_t8 30 rfl rfl
theorem kw1711 : Cond.code ⟨"LanternStateModel", "layAside", "()V"⟩ prog_13_method_104_code 2 none ∈ gw := gw_t8 31 rfl rfl
theorem kw1712 : Cond.methodLink "LanternStateModel" 359 ⟨"LanternStateModel", "takeBack", "()V"⟩ ∈ gw := gw_t8 32 rfl rfl
theorem kw1714 : Cond.instanceMethod ⟨"LanternStateModel", "takeBack", "()V"⟩ ∈ gw := gw_t8 34 rfl rfl
theorem kw1715 : Cond.code ⟨"LanternStateModel", "takeBack", "()V"⟩ prog_13_method_105_code 2 none ∈ gw := gw_t8 35 rfl rfl
theorem kw1716 : Cond.methodLink "LanternStateLaw" 163 ⟨"LanternStateModel", "book", "(I)I"⟩ ∈ gw := gw_t8 36 rfl rfl
theorem kw1717 : Cond.instanceMethod ⟨"LanternStateModel", "book", "(I)I"⟩ ∈ gw := gw_t8 37 rfl rfl
theorem kw1718 : Cond.selects "LanternStateModel" ⟨"LanternStateModel", "book", "(I)I"⟩ ⟨"LanternStateModel", "book", "(I)I"⟩ ∈ gw := gw_t8 38 rfl rfl
theorem kw1719 : Cond.code ⟨"LanternStateModel", "book", "(I)I"⟩ prog_13_method_114_code 4 (some FieldType.int) ∈ gw := gw_t8 39 rfl rfl
theorem kw1720 : Cond.methodLink "LanternStateModel" 380 ⟨"LanternStateModel", "readBookLine", "()Z"⟩ ∈ gw := gw_t8 40 rfl rfl
theorem kw1722 : Cond.instanceMethod ⟨"LanternStateModel", "readBookLine", "()Z"⟩ ∈ gw := gw_t8 42 rfl rfl
theorem kw1723 : Cond.code ⟨"LanternStateModel", "readBookLine", "()Z"⟩ prog_13_method_112_code 6 (some FieldType.boolean) ∈ gw := gw_t8 43 rfl rfl
theorem kw1724 : Cond.methodLink "LanternStateModel" 362 ⟨"LanternStateModel", "keep", "(IZ)Z"⟩ ∈ gw := gw_t8 44 rfl rfl
theorem kw1726 : Cond.instanceMethod ⟨"LanternStateModel", "keep", "(IZ)Z"⟩ ∈ gw := gw_t8 46 rfl rfl
theorem kw1727 : Cond.code ⟨"LanternStateModel", "keep", "(IZ)Z"⟩ prog_13_method_107_code 3 (some FieldType.boolean) ∈ gw := gw_t8 47 rfl rfl
theorem kw1728 : Cond.methodLink "LanternStateModel" 374 ⟨"LanternStateModel", "readHearerDoes", "(I)Z"⟩ ∈ gw := gw_t8 48 rfl rfl
theorem kw1730 : Cond.instanceMethod ⟨"LanternStateModel", "readHearerDoes", "(I)Z"⟩ ∈ gw := gw_t8 50 rfl rfl
theorem kw1731 : Cond.code ⟨"LanternStateModel", "readHearerDoes", "(I)Z"⟩ prog_13_method_111_code 2 (some FieldType.boolean) ∈ gw := gw_t8 51 rfl rfl
theorem kw1732 : Cond.methodLink "LanternStateModel" 377 ⟨"LanternStateModel", "readSlideDoes", "(I)Z"⟩ ∈ gw := gw_t8 52 rfl rfl
theorem kw1734 : Cond.instanceMethod ⟨"LanternStateModel", "readSlideDoes", "(I)Z"⟩ ∈ gw := gw_t8 54 rfl rfl
theorem kw1735 : Cond.code ⟨"LanternStateModel", "readSlideDoes", "(I)Z"⟩ prog_13_method_110_code 2 (some FieldType.boolean) ∈ gw := gw_t8 55 rfl rfl
theorem kw1736 : Cond.methodLink "LanternStateModel" 365 ⟨"LanternStateModel", "readOtherSlide", "()Z"⟩ ∈ gw := gw_t8 56 rfl rfl
theorem kw1738 : Cond.instanceMethod ⟨"LanternStateModel", "readOtherSlide", "()Z"⟩ ∈ gw := gw_t8 58 rfl rfl
theorem kw1739 : Cond.code ⟨"LanternStateModel", "readOtherSlide", "()Z"⟩ prog_13_method_108_code 1 (some FieldType.boolean) ∈ gw := gw_t8 59 rfl rfl
theorem kw1740 : Cond.methodLink "LanternStateModel" 368 ⟨"LanternStateModel", "readCell", "(I)Z"⟩ ∈ gw := gw_t8 60 rfl rfl
theorem kw1742 : Cond.instanceMethod ⟨"LanternStateModel", "readCell", "(I)Z"⟩ ∈ gw := gw_t8 62 rfl rfl
theorem kw1743 : Cond.code ⟨"LanternStateModel", "readCell", "(I)Z"⟩ prog_13_method_109_code 2 (some FieldType.boolean) ∈ gw := gw_t8 63 rfl rfl
theorem kw1744 : Cond.methodLink "LanternStateModel" 383 ⟨"LanternStateModel", "goBy", "(I)I"⟩ ∈ gw := gw_t8 64 rfl rfl
theorem kw1746 : Cond.instanceMethod ⟨"LanternStateModel", "goBy", "(I)I"⟩ ∈ gw := gw_t8 66 rfl rfl
theorem kw1747 : Cond.code ⟨"LanternStateModel", "goBy", "(I)I"⟩ prog_13_method_113_code 4 (some FieldType.int) ∈ gw := gw_t8 67 rfl rfl
theorem kw1748 : Cond.methodLink "LanternStateModel" 390 ⟨"LanternStateModel", "stay", "(Z)V"⟩ ∈ gw := gw_t8 68 rfl rfl
theorem kw1750 : Cond.instanceMethod ⟨"LanternStateModel", "stay", "(Z)V"⟩ ∈ gw := gw_t8 70 rfl rfl
theorem kw1751 : Cond.code ⟨"LanternStateModel", "stay", "(Z)V"⟩ prog_13_method_115_code 4 none ∈ gw := gw_t8 71 rfl rfl
theorem kw1752 : Cond.methodLink "LanternStateLaw" 167 ⟨"LanternStateModel", "told", "(I)I"⟩ ∈ gw := gw_t8 72 rfl rfl
theorem kw1753 : Cond.instanceMethod ⟨"LanternStateModel", "told", "(I)I"⟩ ∈ gw := gw_t8 73 rfl rfl
theorem kw1754 : Cond.selects "LanternStateModel" ⟨"LanternStateModel", "told", "(I)I"⟩ ⟨"LanternStateModel", "told", "(I)I"⟩ ∈ gw := gw_t8 74 rfl rfl
theorem kw1755 : Cond.code ⟨"LanternStateModel", "told", "(I)I"⟩ prog_13_method_116_code 2 (some FieldType.int) ∈ gw := gw_t8 75 rfl rfl
theorem kw1756 : Cond.methodLink "LanternStateLaw" 171 ⟨"LanternStateModel", "sentence", "()I"⟩ ∈ gw := gw_t8 76 rfl rfl
theorem kw1757 : Cond.instanceMethod ⟨"LanternStateModel", "sentence", "()I"⟩ ∈ gw := gw_t8 77 rfl rfl
theorem kw1758 : Cond.selects "LanternStateModel" ⟨"LanternStateModel", "sentence", "()I"⟩ ⟨"LanternStateModel", "sentence", "()I"⟩ ∈ gw := gw_t8 78 rfl rfl
theorem kw1759 : Cond.code ⟨"LanternStateModel", "sentence", "()I"⟩ prog_13_method_125_code 2 (some FieldType.int) ∈ gw := gw_t8 79 rfl rfl
theorem kw1760 : Cond.methodLink "LanternStateModel" 428 ⟨"LanternStateModel", "readOr", "()Z"⟩ ∈ gw := gw_t8 80 rfl rfl
theorem kw1762 : Cond.instanceMethod ⟨"LanternStateModel", "readOr", "()Z"⟩ ∈ gw := gw_t8 82 rfl rfl
theorem kw1763 : Cond.code ⟨"LanternStateModel", "readOr", "()Z"⟩ prog_13_method_118_code 2 (some FieldType.boolean) ∈ gw := gw_t8 83 rfl rfl
theorem kw1764 : Cond.methodLink "LanternStateModel" 397 ⟨"LanternStateModel", "readAnd", "()Z"⟩ ∈ gw := gw_t8 84 rfl rfl
theorem kw1766 : Cond.instanceMethod ⟨"LanternStateModel", "readAnd", "()Z"⟩ ∈ gw := gw_t8 86 rfl rfl
theorem kw1767 : Cond.code ⟨"LanternStateModel", "readAnd", "()Z"⟩ prog_13_method_119_code 2 (some FieldType.boolean) ∈ gw := gw_t8 87 rfl rfl
theorem kw1768 : Cond.methodLink "LanternStateModel" 407 ⟨"LanternStateModel", "readSaid", "()Z"⟩ ∈ gw := gw_t8 88 rfl rfl
theorem kw1770 : Cond.instanceMethod ⟨"LanternStateModel", "readSaid", "()Z"⟩ ∈ gw := gw_t8 90 rfl rfl
theorem kw1771 : Cond.code ⟨"LanternStateModel", "readSaid", "()Z"⟩ prog_13_method_120_code 4 (some FieldType.boolean) ∈ gw := gw_t8 91 rfl rfl
theorem kw1772 : Cond.methodLink "LanternStateModel" 416 ⟨"LanternStateModel", "readBracket", "()Z"⟩ ∈ gw := gw_t8 92 rfl rfl
theorem kw1774 : Cond.instanceMethod ⟨"LanternStateModel", "readBracket", "()Z"⟩ ∈ gw := gw_t8 94 rfl rfl
theorem kw1775 : Cond.code ⟨"LanternStateModel", "readBracket", "()Z"⟩ prog_13_method_122_code 1 (some FieldType.boolean) ∈ gw := gw_t8 95 rfl rfl
theorem kw1776 : Cond.methodLink "LanternStateModel" 419 ⟨"LanternStateModel", "readNot", "()Z"⟩ ∈ gw := gw_t8 96 rfl rfl
theorem kw1778 : Cond.instanceMethod ⟨"LanternStateModel", "readNot", "()Z"⟩ ∈ gw := gw_t8 98 rfl rfl
theorem kw1779 : Cond.code ⟨"LanternStateModel", "readNot", "()Z"⟩ prog_13_method_121_code 1 (some FieldType.boolean) ∈ gw := gw_t8 99 rfl rfl
theorem kw1780 : Cond.methodLink "LanternStateModel" 403 ⟨"LanternStateModel", "saysOne", "(IIII)I"⟩ ∈ gw := gw_t8 100 rfl rfl
theorem kw1782 : Cond.instanceMethod ⟨"LanternStateModel", "saysOne", "(IIII)I"⟩ ∈ gw := gw_t8 102 rfl rfl
theorem kw1783 : Cond.code ⟨"LanternStateModel", "saysOne", "(IIII)I"⟩ prog_13_method_117_code 6 (some FieldType.int) ∈ gw := gw_t8 103 rfl rfl
theorem kw1784 : Cond.methodLink "LanternStateModel" 422 ⟨"LanternStateModel", "readOf", "(I)Z"⟩ ∈ gw := gw_t8 104 rfl rfl
theorem kw1786 : Cond.instanceMethod ⟨"LanternStateModel", "readOf", "(I)Z"⟩ ∈ gw := gw_t8 106 rfl rfl
theorem kw1787 : Cond.code ⟨"LanternStateModel", "readOf", "(I)Z"⟩ prog_13_method_123_code 2 (some FieldType.boolean) ∈ gw := gw_t8 107 rfl rfl
theorem kw1788 : Cond.methodLink "LanternStateModel" 425 ⟨"LanternStateModel", "readCompare", "(I)Z"⟩ ∈ gw := gw_t8 108 rfl rfl
theorem kw1790 : Cond.instanceMethod ⟨"LanternStateModel", "readCompare", "(I)Z"⟩ ∈ gw := gw_t8 110 rfl rfl
theorem kw1791 : Cond.code ⟨"LanternStateModel", "readCompare", "(I)Z"⟩ prog_13_method_124_code 3 (some FieldType.boolean) ∈ gw := gw_t8 111 rfl rfl
theorem kw1792 : Cond.methodLink "LanternStateLaw" 175 ⟨"LanternStateModel", "said", "(I)I"⟩ ∈ gw := gw_t8 112 rfl rfl
theorem kw1793 : Cond.instanceMethod ⟨"LanternStateModel", "said", "(I)I"⟩ ∈ gw := gw_t8 113 rfl rfl
theorem kw1794 : Cond.selects "LanternStateModel" ⟨"LanternStateModel", "said", "(I)I"⟩ ⟨"LanternStateModel", "said", "(I)I"⟩ ∈ gw := gw_t8 114 rfl rfl
theorem kw1795 : Cond.code ⟨"LanternStateModel", "said", "(I)I"⟩ prog_13_method_127_code 4 (some FieldType.int) ∈ gw := gw_t8 115 rfl rfl
theorem kw1796 : Cond.methodLink "LanternStateModel" 431 ⟨"LanternStateModel", "holds", "(II)Z"⟩ ∈ gw := gw_t8 116 rfl rfl
theorem kw1798 : Cond.instanceMethod ⟨"LanternStateModel", "holds", "(II)Z"⟩ ∈ gw := gw_t8 118 rfl rfl
theorem kw1799 : Cond.code ⟨"LanternStateModel", "holds", "(II)Z"⟩ prog_13_method_126_code 8 (some FieldType.boolean) ∈ gw := gw_t8 119 rfl rfl
theorem kw1800 : Cond.methodLink "LanternStateLaw" 179 ⟨"LanternStateModel", "image", "(I)Z"⟩ ∈ gw := gw_t8 120 rfl rfl
theorem kw1801 : Cond.instanceMethod ⟨"LanternStateModel", "image", "(I)Z"⟩ ∈ gw := gw_t8 121 rfl rfl
theorem kw1802 : Cond.selects "LanternStateModel" ⟨"LanternStateModel", "image", "(I)Z"⟩ ⟨"LanternStateModel", "image", "(I)Z"⟩ ∈ gw := gw_t8 122 rfl rfl
theorem kw1803 : Cond.code ⟨"LanternStateModel", "image", "(I)Z"⟩ prog_13_method_128_code 3 (some FieldType.boolean) ∈ gw := gw_t8 123 rfl rfl
theorem kw1804 : Cond.methodLink "LanternStateLaw" 183 ⟨"LanternStateModel", "restore", "(I)Z"⟩ ∈ gw := gw_t8 124 rfl rfl
theorem kw1805 : Cond.instanceMethod ⟨"LanternStateModel", "restore", "(I)Z"⟩ ∈ gw := gw_t8 125 rfl rfl
theorem kw1806 : Cond.selects "LanternStateModel" ⟨"LanternStateModel", "restore", "(I)Z"⟩ ⟨"LanternStateModel", "restore", "(I)Z"⟩ ∈ gw := gw_t8 126 rfl rfl
theorem kw1807 : Cond.code ⟨"LanternStateModel", "restore", "(I)Z"⟩ prog_13_method_129_code 3 (some FieldType.boolean) ∈ gw := gw_t8 127 rfl rfl
theorem kw1808 : Cond.methodLink "LanternStateLaw" 187 ⟨"LanternStateModel", "count", "(I)I"⟩ ∈ gw := gw_t8 128 rfl rfl
theorem kw1809 : Cond.instanceMethod ⟨"LanternStateModel", "count", "(I)I"⟩ ∈ gw := gw_t8 129 rfl rfl
theorem kw1810 : Cond.selects "LanternStateModel" ⟨"LanternStateModel", "count", "(I)I"⟩ ⟨"LanternStateModel", "count", "(I)I"⟩ ∈ gw := gw_t8 130 rfl rfl
theorem kw1811 : Cond.code ⟨"LanternStateModel", "count", "(I)I"⟩ prog_13_method_130_code 2 (some FieldType.int) ∈ gw := gw_t8 131 rfl rfl
theorem kw1812 : Cond.sameMethod "java/lang/Throwable" "java/lang/Throwable" "fillInStackTrace" "(I)Ljava/lang/Throwable;" ∈ gw := gw_t8 132 rfl rfl
theorem kw1827 : Cond.fieldLink "java/lang/String" 9 "java/lang/String" "value" "[B" ∈ gw := gw_t8 147 rfl rfl
theorem kw1828 : Cond.fieldLink "java/lang/String" 15 "java/lang/String" "coder" "B" ∈ gw := gw_t8 148 rfl rfl
end
section
/-! base: the world's facts in one word, contracts in one form, rows in one form -/
abbrev Gc : Type := va_G × (Nat → ClassId) × (Nat → Nat) × (Nat → Nat)
abbrev tysG (G : Gc) : List (ClassId × FieldType) := [(G.2.1 0, .byte), (G.2.1 1, .char), (G.2.1 2, .int), (G.2.1 3, .long), (G.2.1 4, .boolean), (G.2.1 5, .object "LanternState$Image"), (G.2.1 6, .object "LanternState$State")]
abbrev eB (G : Gc) (n : Nat) (f : Nat → Int32) : va_E := .inl (G.2.1 0, n, .inl f)
abbrev eC (G : Gc) (n : Nat) (f : Nat → Int32) : va_E := .inl (G.2.1 1, n, .inl f)
abbrev eI (G : Gc) (n : Nat) (f : Nat → Int32) : va_E := .inl (G.2.1 2, n, .inl f)
abbrev eJ (G : Gc) (n : Nat) (f : Nat → Int64) : va_E := .inl (G.2.1 3, n, .inr (.inl f))
abbrev eZ (G : Gc) (n : Nat) (f : Nat → Int32) : va_E := .inl (G.2.1 4, n, .inl f)
abbrev eIm (G : Gc) (n : Nat) (f : Nat → Option Nat) : va_E := .inl (G.2.1 5, n, .inr (.inr (.inr (.inr f))))
abbrev eSt (G : Gc) (n : Nat) (f : Nat → Option Nat) : va_E := .inl (G.2.1 6, n, .inr (.inr (.inr (.inr f))))
abbrev nestL : List (String × Nat × MethodName × String) := [("LanternState", 18, ⟨"LanternState$Scene", "<init>", "()V"⟩, "LanternState"), ("LanternState", 28, ⟨"LanternState$State", "<init>", "()V"⟩, "LanternState"), ("LanternState$History", 17, ⟨"LanternState$State", "<init>", "()V"⟩, "LanternState"), ("LanternState", 45, ⟨"LanternState$Sentence", "<init>", "()V"⟩, "LanternState"), ("LanternState", 55, ⟨"LanternState$Book", "<init>", "()V"⟩, "LanternState"), ("LanternState", 62, ⟨"LanternState$Search", "<init>", "()V"⟩, "LanternState"), ("LanternState", 69, ⟨"LanternState$Bill", "<init>", "()V"⟩, "LanternState"), ("LanternState", 91, ⟨"LanternState$Image", "<init>", "()V"⟩, "LanternState"), ("LanternState$Image", 9, ⟨"LanternState$Scene", "<init>", "()V"⟩, "LanternState"), ("LanternState$Image", 18, ⟨"LanternState$State", "<init>", "()V"⟩, "LanternState"), ("LanternState$Image", 25, ⟨"LanternState$Sentence", "<init>", "()V"⟩, "LanternState")]
abbrev strL : List (String × Nat × String × Nat) := [("LanternState$Tape", 19, "slide hearer likes hates near after pass spread lamp front behind shown over scratch sits hour or and not so cracked even like light heat sighs number ", 0), ("LanternState$Bill", 34, " is so", 1), ("LanternState$Bill", 43, " is cracked", 2), ("LanternState$Bill", 45, " is not so", 3), ("LanternState$Bill", 51, " for ", 4), ("LanternState", 138, "no such slide or what", 5), ("LanternState", 191, "no such hearer or what", 6)]
abbrev lenJS : List Nat := [151, 6, 11, 10, 5, 21, 22]
abbrev bytJS : List (List Int32) := [[115, 108, 105, 100, 101, 32, 104, 101, 97, 114, 101, 114, 32, 108, 105, 107, 101, 115, 32, 104, 97, 116, 101, 115, 32, 110, 101, 97, 114, 32, 97, 102, 116, 101, 114, 32, 112, 97, 115, 115, 32, 115, 112, 114, 101, 97, 100, 32, 108, 97, 109, 112, 32, 102, 114, 111, 110, 116, 32, 98, 101, 104, 105, 110, 100, 32, 115, 104, 111, 119, 110, 32, 111, 118, 101, 114, 32, 115, 99, 114, 97, 116, 99, 104, 32, 115, 105, 116, 115, 32, 104, 111, 117, 114, 32, 111, 114, 32, 97, 110, 100, 32, 110, 111, 116, 32, 115, 111, 32, 99, 114, 97, 99, 107, 101, 100, 32, 101, 118, 101, 110, 32, 108, 105, 107, 101, 32, 108, 105, 103, 104, 116, 32, 104, 101, 97, 116, 32, 115, 105, 103, 104, 115, 32, 110, 117, 109, 98, 101, 114, 32], [32, 105, 115, 32, 115, 111], [32, 105, 115, 32, 99, 114, 97, 99, 107, 101, 100], [32, 105, 115, 32, 110, 111, 116, 32, 115, 111], [32, 102, 111, 114, 32], [110, 111, 32, 115, 117, 99, 104, 32, 115, 108, 105, 100, 101, 32, 111, 114, 32, 119, 104, 97, 116], [110, 111, 32, 115, 117, 99, 104, 32, 104, 101, 97, 114, 101, 114, 32, 111, 114, 32, 119, 104, 97, 116]]
abbrev decL : List MethodName := [⟨"java/lang/RuntimeException", "<init>", "()V"⟩, ⟨"java/lang/RuntimeException", "<init>", "(Ljava/lang/String;)V"⟩, ⟨"java/lang/Exception", "<init>", "()V"⟩, ⟨"java/lang/Exception", "<init>", "(Ljava/lang/String;)V"⟩, ⟨"java/lang/Throwable", "<init>", "()V"⟩, ⟨"java/lang/Throwable", "<init>", "(Ljava/lang/String;)V"⟩]
abbrev cstL : List (String × String) := [("java/util/NoSuchElementException", "java/util/NoSuchElementException")]
/-- what the tables say, at U -/
def mK (G : Gc) (U : State) : Prop := va_K G.1 vwCl (tysG G) U ∧ (∀ q ∈ nestL, va_Nw (.methodLinkNest q.1 q.2.1 q.2.2.1 q.2.2.2) U) ∧ va_AO "LanternState$Image" U ∧ va_AO "LanternState$State" U ∧ (∀ q ∈ strL, vk_R q.1 q.2.1 q.2.2.1 (G.2.2.1 q.2.2.2) U) ∧ (∀ q ∈ decL, va_Nw (.declares q) U) ∧ ∀ q ∈ cstL, va_Nw (.castable q.1 q.2) U
theorem mK.warm {G : Gc} {s U : State} (hW : s.WarmedH U.vm) (h : mK G s) : mK G U :=
  ⟨va_K.moved hW.alike h.1, fun q hq => va_Nw.warmM hW (h.2.1 q hq), va_AO.moved hW.alike h.2.2.1, va_AO.moved hW.alike h.2.2.2.1, fun q hq => vk_R.warm hW (h.2.2.2.2.1 q hq), fun q hq => va_Nw.warmD hW (h.2.2.2.2.2.1 q hq), fun q hq => va_Nw.warmC hW (h.2.2.2.2.2.2 q hq)⟩
theorem mK.same {G : Gc} {s U : State} (hv : U.vm = s.vm) (h : mK G s) : mK G U := h.warm (by rw [hv]; exact State.WarmedH.refl s)
/-- what the heap holds outside A: texts, statics -/
def mE (G : Gc) (A : Nat → Prop) (U : State) (H : Heap) : Prop := vk_S 7 lenJS bytJS G.2.2.1 G.2.2.2 A U H ∧ va_Z "java/lang/String" "COMPACT_STRINGS" "Z" (.int 1) A U H ∧ va_Zq "jdk/internal/util/Preconditions" "SIOOBE_FORMATTER" "Ljava/util/function/BiFunction;" A U H ∧ vx_Zq Bundle.tN "UNASSIGNED_STACK" Bundle.steD A U H ∧ vx_Zq Bundle.tN "SUPPRESSED_SENTINEL" Bundle.listD A U H
theorem mE.moved {G : Gc} {A : Nat → Prop} {u U : State} {H : Heap} (hvm : u.vm.Alike U.vm) (h : mE G A u H) : mE G A U H := ⟨vk_S.moved hvm h.1, va_Z.moved hvm h.2.1, va_Zq.moved hvm h.2.2.1, vx_Zq.moved hvm h.2.2.2.1, vx_Zq.moved hvm h.2.2.2.2⟩
theorem mE.kept {G : Gc} {A : Nat → Prop} {U : State} {H H1 : Heap} (h : mE G A U H) (hq : ∀ a : Nat, a < H.size → ¬ A a → H1[a]? = H[a]?) : mE G A U H1 := ⟨h.1.kept hq, h.2.1.kept hq, h.2.2.1.kept hq, h.2.2.2.1.kept hq, h.2.2.2.2.kept hq⟩
theorem mE.narrow {G : Gc} {A B : Nat → Prop} {U : State} {H : Heap} (h : mE G A U H) (hAB : ∀ q, B q → A q) : mE G B U H := ⟨h.1.narrow hAB, h.2.1.narrow hAB, h.2.2.1.narrow hAB, h.2.2.2.1.narrow hAB, h.2.2.2.2.narrow hAB⟩
/-- the world of a method's body -/
def Wd (G : Gc) (s : State) (A : Nat → Prop) (w : va_W) (H : Heap) (locs : List Loc) : Prop :=
  mK G s ∧ va_P G.1 vwCl w H ∧ va_D A w ∧ va_S A s.heap H locs ∧ (∀ q, s.heap.size ≤ q → A q) ∧ mE G A s s.heap
theorem Wd.sub {G : Gc} {s : State} {A : Nat → Prop} {w : va_W} {H : Heap} {locs : List Loc} (h : Wd G s A w H locs) (is : List Nat) {w' : va_W} (hn : va_nd is = true) (hs : is.map (fun i => w[i]?) = w'.map some) : Wd G s A w' H locs := by
  refine ⟨h.1, ?_, h.2.2.1.sub is hn hs, h.2.2.2⟩
  refine h.2.1.sub is ?_
  have : ∀ (l : List Nat) (v : va_W), l.map (fun i => w[i]?) = v.map some → l.filterMap (fun i => w[i]?) = v := by
    intro l
    induction l with
    | nil => intro v hv; cases v with
      | nil => rfl
      | cons a b => simp at hv
    | cons i l ih => intro v hv; cases v with
      | nil => simp at hv
      | cons a b =>
        simp only [List.map_cons, List.cons.injEq] at hv
        rw [List.filterMap_cons, hv.1]
        simp only [ih b hv.2]
  exact this is w' hs
abbrev rmD (d mc ms : Nat) : Room := { frames := d, cells := mc, slots := ms, locals := 40 * d }
def mPre (G : Gc) (av : List Value) (w : va_W) (sz : Nat) : Array Value → State → Prop := va_Pc av (fun U => U.heap.size = sz ∧ va_P G.1 vwCl w U.heap ∧ mK G U ∧ va_D (fun _ => True) w ∧ mE G (va_A w sz) U U.heap)
def mB (G : Gc) (A : Nat → Prop) (u : va_W) (t : State) : Prop := va_P G.1 vwCl u t.heap ∧ va_D A u
theorem mPre_blind (G : Gc) (av : List Value) (w : va_W) (sz : Nat) : FrameBlind (mPre G av w sz) := fun a U g mk q => by
  obtain ⟨q0, q1, q2, q3, q4, q5⟩ := q
  exact ⟨q0, q1, q2, mK.same (s := U) rfl q3, q4, mE.moved (u := U) (U := U.calling g mk a) (Vm.Alike.refl U.vm) q5⟩
/-- contracts: an int (or boolean ..), nothing, a long comes back -/
def Ci (l : Launch) (y : MethodName) (cc : ByteArray) (mL : Nat) (rt : Option FieldType) (d mc ms : Nat) (G : Gc) (av : List Value) (w : va_W) (post : Int32 → va_W → Prop) : Prop :=
  ∀ sz : Nat, Met l y (Cond.code y cc mL rt :: gw) (rmD d mc ms) (mPre G av w sz) (va_Qi post (mB G (va_A w sz)) (va_A w sz)) mc ms (va_A w sz)
def Cv (l : Launch) (y : MethodName) (cc : ByteArray) (mL : Nat) (d mc ms : Nat) (G : Gc) (av : List Value) (w : va_W) (post : va_W → Prop) : Prop :=
  ∀ sz : Nat, Met l y (Cond.code y cc mL none :: gw) (rmD d mc ms) (mPre G av w sz) (va_Qv post (mB G (va_A w sz)) (va_A w sz)) mc ms (va_A w sz)
def Cl (l : Launch) (y : MethodName) (cc : ByteArray) (mL : Nat) (d mc ms : Nat) (G : Gc) (av : List Value) (w : va_W) (post : Int64 → va_W → Prop) : Prop :=
  ∀ sz : Nat, Met l y (Cond.code y cc mL (some .long) :: gw) (rmD d mc ms) (mPre G av w sz) (va_Ql post (mB G (va_A w sz)) (va_A w sz)) mc ms (va_A w sz)
/-- what stands at a body's entry -/
def Bd (p : Program) (s : State) (m : MethodId) (args : Array Value) (meth : Method) (c : Code) (y : MethodName) (cc : ByteArray) (mL : Nat) (rt : Option FieldType) : Prop :=
  CallFix p m c cc mL s args gw y.cls ∧ meth.sig.returnType = rt ∧ meth.locks = false ∧ meth.name = y.name
theorem entry_of {l : Launch} {y : MethodName} {cc : ByteArray} {mL : Nat} {rt : Option FieldType} {d mc ms : Nat} {G : Gc} {av : List Value} {w : va_W} {Qc : Nat → Array Value → State → Outcome → State → Prop} (hy : plainName y.cls = true) (hL : (lg_sl av).length ≤ mL)
    (body : ∀ (p : Program) (e : Env) (s : State) (m : MethodId) (below : List Frame) (meth : Method) (c : Code) (ls : Array Slot), Bd p s m av.toArray meth c y cc mL rt → Wd G s (va_A w s.heap.size) w s.heap [] → lv_has ls mL (lv_args 0 av) →
      W p l e (rmD d mc ms) s m av.toArray below meth c s.heap [] 0 0 (MQ below (Qc s.heap.size) av.toArray s mc ms (va_A w s.heap.size)) (F0 m 0 ls [])) (sz : Nat) :
    Met l y (Cond.code y cc mL rt :: gw) (rmD d mc ms) (mPre G av w sz) (Qc sz) mc ms (va_A w sz) := by
  refine Met.ofW (cc := cc) (maxL := mL) (ret := rt) hy rfl ?_
  intro p e s m args below meth c s₁ B hml hv
  obtain ⟨rfl, hsz, hP, hK, hD0, hE⟩ := hv
  subst hsz
  have hts := atoms_spec (ws := Cond.code y cc mL rt :: gw) B.pre
  rw [lg_entry_eq]
  exact body p e s m below meth c _ ⟨⟨B.exec, B.bytes, hml, findClass_of_methodNamed B.named, fun w h => hts w (List.mem_cons_of_mem _ h)⟩, B.returns, B.notSynchronized, (name_of_methodNamed B.named B.method).1⟩ ⟨hK, hP, hD0.self, va_S.rf, fun q h => Or.inr h, hE⟩ (lv_entry av hL)
theorem Ci.of {l : Launch} {y : MethodName} {cc : ByteArray} {mL : Nat} {rt : Option FieldType} {d mc ms : Nat} {G : Gc} {av : List Value} {w : va_W} {post : Int32 → va_W → Prop} (hy : plainName y.cls = true) (hL : (lg_sl av).length ≤ mL)
    (body : ∀ (p : Program) (e : Env) (s : State) (m : MethodId) (below : List Frame) (meth : Method) (c : Code) (ls : Array Slot) (A : Nat → Prop), Bd p s m av.toArray meth c y cc mL rt → Wd G s A w s.heap [] → lv_has ls mL (lv_args 0 av) →
      W p l e (rmD d mc ms) s m av.toArray below meth c s.heap [] 0 0 (MQ below (va_Qi post (mB G A) A) av.toArray s mc ms A) (F0 m 0 ls [])) : Ci l y cc mL rt d mc ms G av w post :=
  fun sz => entry_of (Qc := fun z => va_Qi post (mB G (va_A w z)) (va_A w z)) hy hL (fun p e s m below meth c ls B hw hl => body p e s m below meth c ls _ B hw hl) sz
theorem Cv.of {l : Launch} {y : MethodName} {cc : ByteArray} {mL : Nat} {d mc ms : Nat} {G : Gc} {av : List Value} {w : va_W} {post : va_W → Prop} (hy : plainName y.cls = true) (hL : (lg_sl av).length ≤ mL)
    (body : ∀ (p : Program) (e : Env) (s : State) (m : MethodId) (below : List Frame) (meth : Method) (c : Code) (ls : Array Slot) (A : Nat → Prop), Bd p s m av.toArray meth c y cc mL none → Wd G s A w s.heap [] → lv_has ls mL (lv_args 0 av) →
      W p l e (rmD d mc ms) s m av.toArray below meth c s.heap [] 0 0 (MQ below (va_Qv post (mB G A) A) av.toArray s mc ms A) (F0 m 0 ls [])) : Cv l y cc mL d mc ms G av w post :=
  fun sz => entry_of (Qc := fun z => va_Qv post (mB G (va_A w z)) (va_A w z)) hy hL (fun p e s m below meth c ls B hw hl => body p e s m below meth c ls _ B hw hl) sz
theorem Cl.of {l : Launch} {y : MethodName} {cc : ByteArray} {mL : Nat} {d mc ms : Nat} {G : Gc} {av : List Value} {w : va_W} {post : Int64 → va_W → Prop} (hy : plainName y.cls = true) (hL : (lg_sl av).length ≤ mL)
    (body : ∀ (p : Program) (e : Env) (s : State) (m : MethodId) (below : List Frame) (meth : Method) (c : Code) (ls : Array Slot) (A : Nat → Prop), Bd p s m av.toArray meth c y cc mL (some .long) → Wd G s A w s.heap [] → lv_has ls mL (lv_args 0 av) →
      W p l e (rmD d mc ms) s m av.toArray below meth c s.heap [] 0 0 (MQ below (va_Ql post (mB G A) A) av.toArray s mc ms A) (F0 m 0 ls [])) : Cl l y cc mL d mc ms G av w post :=
  fun sz => entry_of (Qc := fun z => va_Ql post (mB G (va_A w z)) (va_A w z)) hy hL (fun p e s m below meth c ls B hw hl => body p e s m below meth c ls _ B hw hl) sz
section XR
variable {p : Program} {l : Launch} {e : Env} {R : Room} {s : State} {m : MethodId} {args : Array Value} {below : List Frame} {meth : Method} {c : Code} {H : Heap} {locs : List Loc} {cells slots : Nat} {Q : State → Prop}
variable {cc : ByteArray} {pc : Nat} {ls : Array Slot} {rest : List Value} {A : Nat → Prop} {a : Nat} {w w' : va_W} {G : Gc} {nL mc ms : Nat} {own : String} {y : MethodName} {rt : Option FieldType}
theorem x_reti {post : Int32 → va_W → Prop} {v : Int32} {u : va_W} (B : Bd p s m args meth c y cc nL (some .int)) (h : Wd G s A u H locs) (hp : post v u) (hc : cells ≤ mc) (hs : slots ≤ ms) (hdg : decode cc pc = .ok (.ireturn, 1)) :
    W p l e R s m args below meth c H locs cells slots (MQ below (va_Qi post (mB G A) A) args s mc ms A) (F0 m pc ls [.int v]) :=
  W.widen hc hs (W.iret B.1.1 B.1.2.1 B.2.1 (fun t ht hW => ⟨⟨v, u, rfl, hp, by rw [ht]; exact h.2.1, h.2.2.1⟩, h.2.2.2.1.F ht⟩) h.2.2.2.1.2.2 hdg B.2.2.1)
theorem x_retz {post : Int32 → va_W → Prop} {v : Int32} {u : va_W} {ty : FieldType} (B : Bd p s m args meth c y cc nL (some ty)) (h : Wd G s A u H locs) (hn : narrow ty (.int v) = .int v) (hp : post v u) (hc : cells ≤ mc) (hs : slots ≤ ms) (hdg : decode cc pc = .ok (.ireturn, 1)) :
    W p l e R s m args below meth c H locs cells slots (MQ below (va_Qi post (mB G A) A) args s mc ms A) (F0 m pc ls [.int v]) :=
  W.widen hc hs (W.zret B.1.1 B.1.2.1 B.2.1 hn (fun t ht hW => ⟨⟨v, u, rfl, hp, by rw [ht]; exact h.2.1, h.2.2.1⟩, h.2.2.2.1.F ht⟩) h.2.2.2.1.2.2 hdg B.2.2.1)
theorem x_retv {post : va_W → Prop} {u : va_W} (B : Bd p s m args meth c y cc nL none) (h : Wd G s A u H locs) (hp : post u) (hc : cells ≤ mc) (hs : slots ≤ ms) (hdg : decode cc pc = .ok (.return_, 1)) :
    W p l e R s m args below meth c H locs cells slots (MQ below (va_Qv post (mB G A) A) args s mc ms A) (F0 m pc ls []) :=
  W.widen hc hs (W.vret B.1.1 B.1.2.1 B.2.1 (fun t ht hW => ⟨⟨u, rfl, hp, by rw [ht]; exact h.2.1, h.2.2.1⟩, h.2.2.2.1.F ht⟩) h.2.2.2.1.2.2 hdg B.2.2.1)
theorem x_retl {post : Int64 → va_W → Prop} {v : Int64} {u : va_W} (B : Bd p s m args meth c y cc nL (some .long)) (h : Wd G s A u H locs) (hp : post v u) (hc : cells ≤ mc) (hs : slots ≤ ms) (hdg : decode cc pc = .ok (.lreturn, 1)) :
    W p l e R s m args below meth c H locs cells slots (MQ below (va_Ql post (mB G A) A) args s mc ms A) (F0 m pc ls [.long v]) :=
  W.widen hc hs (W.lret B.1.1 B.1.2.1 B.2.1 (fun t ht hW => ⟨⟨v, u, rfl, hp, by rw [ht]; exact h.2.1, h.2.2.1⟩, h.2.2.2.1.F ht⟩) h.2.2.2.1.2.2 hdg B.2.2.1)
theorem x_get (C : CallFix p m c cc nL s args gw own) (h : Wd G s A w H locs) {cn : String} {T : u_T} {N : Nat} {index : Nat} (hin : ∀ w ∈ u_ws cn T N, w ∈ gw) (ci : Nat) (hc : vwCl[ci]? = some (cn, T, N)) (q0 : Nat) {fs : List Value} (he : w[q0]? = some (a, .inr (ci, fs))) (k : Nat) (hk : k < N) (hlink : Cond.fieldLink own index (T k).1 (T k).2.1 (T k).2.2.1 ∈ gw) {v : Value} (hv : fs[k]? = some v) (hdg : decode cc pc = .ok (.getfield index, 3))
    (kk : W p l e R s m args below meth c H locs cells slots Q (F0 m (pc + 3) ls (v :: rest))) : W p l e R s m args below meth c H locs cells slots Q (F0 m pc ls (.ref a :: rest)) :=
  va_get C.1 C.2.1 C.2.2.2.2 hin C.2.2.2.1 h.1.1 h.2.1 q0 he hc k hk (C.2.2.2.2 _ hlink) (fun _ h9 => h9) hv hdg kk
theorem x_put (C : CallFix p m c cc nL s args gw own) (h : Wd G s A w H locs) {cn : String} {T : u_T} {N : Nat} {index : Nat} (hin : ∀ w ∈ u_ws cn T N, w ∈ gw) {ty0 : Nat → FieldType} (hty : ∀ k, k < N → parseFieldDescriptor (T k).2.2.1 = some (ty0 k)) (hnm : ∀ a, a < N → ∀ b, b < N → a ≠ b → (T a).2.1 ≠ (T b).2.1) (ci : Nat) (hc : vwCl[ci]? = some (cn, T, N)) (q0 : Nat) {fs : List Value} (he : w[q0]? = some (a, .inr (ci, fs))) (k : Nat) (hk : k < N) (hlink : Cond.fieldLink own index (T k).1 (T k).2.1 (T k).2.2.1 ∈ gw) (hfin : (T k).2.2.2 = false) {v : Value} (hn : narrow (ty0 k) v = v) (hfit : fits (ty0 k) v = true) (hl : k < fs.length) (hw : w.set q0 (a, .inr (ci, fs.set k v)) = w')
    (hdg : decode cc pc = .ok (.putfield index, 3)) (kk : ∀ (H1 : Heap) (locs1 : List Loc), Wd G s A w' H1 locs1 → W p l e R s m args below meth c H1 locs1 cells slots Q (F0 m (pc + 3) ls rest)) : W p l e R s m args below meth c H locs cells slots Q (F0 m pc ls (v :: .ref a :: rest)) :=
  va_put C.1 C.2.1 C.2.2.2.2 hin ty0 hty hnm C.2.2.2.1 h.1.1 h.2.1 h.2.2.1 h.2.2.2.1 q0 he hc k hk (C.2.2.2.2 _ hlink) (fun _ h9 => h9) hfin (hty k hk) hn hfit hl hdg (fun H1 L1 hP hD hS => kk H1 L1 ⟨h.1, hw ▸ hP, hw ▸ hD, hS, h.2.2.2.2⟩)
theorem x_putF (C : CallFix p m c cc nL s args gw own) (h : Wd G s A w H locs) {cn : String} {T : u_T} {N : Nat} {index : Nat} (hin : ∀ w ∈ u_ws cn T N, w ∈ gw) {ty0 : Nat → FieldType} (hty : ∀ k, k < N → parseFieldDescriptor (T k).2.2.1 = some (ty0 k)) (hnm : ∀ a, a < N → ∀ b, b < N → a ≠ b → (T a).2.1 ≠ (T b).2.1) (hin2 : meth.name = "<init>") (ci : Nat) (hc : vwCl[ci]? = some (cn, T, N)) (q0 : Nat) {fs : List Value} (he : w[q0]? = some (a, .inr (ci, fs))) (k : Nat) (hk : k < N) (hlink : Cond.fieldLink own index (T k).1 (T k).2.1 (T k).2.2.1 ∈ gw) (hfin : (T k).2.2.2 = true) (hdecl : (T k).1 = own) {v : Value} (hn : narrow (ty0 k) v = v) (hfit : fits (ty0 k) v = true) (hl : k < fs.length) (hw : w.set q0 (a, .inr (ci, fs.set k v)) = w')
    (hdg : decode cc pc = .ok (.putfield index, 3)) (kk : ∀ (H1 : Heap) (locs1 : List Loc), Wd G s A w' H1 locs1 → W p l e R s m args below meth c H1 locs1 cells slots Q (F0 m (pc + 3) ls rest)) : W p l e R s m args below meth c H locs cells slots Q (F0 m pc ls (v :: .ref a :: rest)) :=
  va_putF C.1 C.2.1 C.2.2.2.2 hin ty0 hty hnm C.2.2.2.1 h.1.1 h.2.1 h.2.2.1 h.2.2.2.1 q0 he hc k hk (C.2.2.2.2 _ hlink) (fun _ h9 => h9) hfin hin2 hdecl (hty k hk) hn hfit hl hdg (fun H1 L1 hP hD hS => kk H1 L1 ⟨h.1, hw ▸ hP, hw ▸ hD, hS, h.2.2.2.2⟩)
theorem x_iald (C : CallFix p m c cc nL s args gw own) (h : Wd G s A w H locs) (q0 : Nat) {n : Nat} {f : Nat → Int32} (he : w[q0]? = some (a, eI G n f)) {i v : Int32} (hin : vp_in i n) (hv : f i.toNatClampNeg = v) (hdg : decode cc pc = .ok (.iaload, 1))
    (kk : W p l e R s m args below meth c H locs cells slots Q (F0 m (pc + 1) ls (.int v :: rest))) : W p l e R s m args below meth c H locs cells slots Q (F0 m pc ls (.int i :: .ref a :: rest)) :=
  va_iald C.1 C.2.1 h.1.1 h.2.1 q0 2 he rfl hin hdg (hv ▸ kk)
theorem x_iast (C : CallFix p m c cc nL s args gw own) (h : Wd G s A w H locs) (q0 : Nat) {n : Nat} {f f' : Nat → Int32} (he : w[q0]? = some (a, eI G n f)) {i x : Int32} (hin : vp_in i n) (hf : upd f i.toNatClampNeg x = f') (hw : w.set q0 (a, eI G n f') = w') (hdg : decode cc pc = .ok (.iastore, 1))
    (kk : ∀ (H1 : Heap) (locs1 : List Loc), Wd G s A w' H1 locs1 → W p l e R s m args below meth c H1 locs1 cells slots Q (F0 m (pc + 1) ls rest)) : W p l e R s m args below meth c H locs cells slots Q (F0 m pc ls (.int x :: .int i :: .ref a :: rest)) :=
  va_iast C.1 C.2.1 h.1.1 h.2.1 h.2.2.1 h.2.2.2.1 q0 2 he rfl hin hdg (fun H1 L1 hP hD hS => kk H1 L1 ⟨h.1, by rw [← hw, ← hf]; exact hP, by rw [← hw, ← hf]; exact hD, hS, h.2.2.2.2⟩)
theorem x_lald (C : CallFix p m c cc nL s args gw own) (h : Wd G s A w H locs) (q0 : Nat) {n : Nat} {f : Nat → Int64} (he : w[q0]? = some (a, eJ G n f)) {i : Int32} {v : Int64} (hin : vp_in i n) (hv : f i.toNatClampNeg = v) (hdg : decode cc pc = .ok (.laload, 1))
    (kk : W p l e R s m args below meth c H locs cells slots Q (F0 m (pc + 1) ls (.long v :: rest))) : W p l e R s m args below meth c H locs cells slots Q (F0 m pc ls (.int i :: .ref a :: rest)) :=
  va_lald C.1 C.2.1 h.1.1 h.2.1 q0 3 he rfl hin hdg (hv ▸ kk)
theorem x_last (C : CallFix p m c cc nL s args gw own) (h : Wd G s A w H locs) (q0 : Nat) {n : Nat} {f f' : Nat → Int64} (he : w[q0]? = some (a, eJ G n f)) {i : Int32} {x : Int64} (hin : vp_in i n) (hf : vp_updL f i.toNatClampNeg x = f') (hw : w.set q0 (a, eJ G n f') = w') (hdg : decode cc pc = .ok (.lastore, 1))
    (kk : ∀ (H1 : Heap) (locs1 : List Loc), Wd G s A w' H1 locs1 → W p l e R s m args below meth c H1 locs1 cells slots Q (F0 m (pc + 1) ls rest)) : W p l e R s m args below meth c H locs cells slots Q (F0 m pc ls (.long x :: .int i :: .ref a :: rest)) :=
  va_last C.1 C.2.1 h.1.1 h.2.1 h.2.2.1 h.2.2.2.1 q0 3 he rfl hin hdg (fun H1 L1 hP hD hS => kk H1 L1 ⟨h.1, by rw [← hw, ← hf]; exact hP, by rw [← hw, ← hf]; exact hD, hS, h.2.2.2.2⟩)
theorem x_bald (C : CallFix p m c cc nL s args gw own) (h : Wd G s A w H locs) (q0 : Nat) {n : Nat} {f : Nat → Int32} (he : w[q0]? = some (a, eB G n f)) {i v : Int32} (hin : vp_in i n) (hv : f i.toNatClampNeg = v) (hdg : decode cc pc = .ok (.baload, 1))
    (kk : W p l e R s m args below meth c H locs cells slots Q (F0 m (pc + 1) ls (.int v :: rest))) : W p l e R s m args below meth c H locs cells slots Q (F0 m pc ls (.int i :: .ref a :: rest)) :=
  va_bald C.1 C.2.1 h.1.1 h.2.1 q0 0 he rfl hin hdg (hv ▸ kk)
theorem x_bast (C : CallFix p m c cc nL s args gw own) (h : Wd G s A w H locs) (q0 : Nat) {n : Nat} {f f' : Nat → Int32} (he : w[q0]? = some (a, eB G n f)) {i x : Int32} (hin : vp_in i n) (hf : upd f i.toNatClampNeg (vp_nar .byte x) = f') (hw : w.set q0 (a, eB G n f') = w') (hdg : decode cc pc = .ok (.bastore, 1))
    (kk : ∀ (H1 : Heap) (locs1 : List Loc), Wd G s A w' H1 locs1 → W p l e R s m args below meth c H1 locs1 cells slots Q (F0 m (pc + 1) ls rest)) : W p l e R s m args below meth c H locs cells slots Q (F0 m pc ls (.int x :: .int i :: .ref a :: rest)) :=
  va_bast C.1 C.2.1 h.1.1 h.2.1 h.2.2.1 h.2.2.2.1 q0 0 he rfl hin hdg (fun H1 L1 hP hD hS => kk H1 L1 ⟨h.1, by rw [← hw, ← hf]; exact hP, by rw [← hw, ← hf]; exact hD, hS, h.2.2.2.2⟩)
theorem x_zald (C : CallFix p m c cc nL s args gw own) (h : Wd G s A w H locs) (q0 : Nat) {n : Nat} {f : Nat → Int32} (he : w[q0]? = some (a, eZ G n f)) {i v : Int32} (hin : vp_in i n) (hv : f i.toNatClampNeg = v) (hdg : decode cc pc = .ok (.baload, 1))
    (kk : W p l e R s m args below meth c H locs cells slots Q (F0 m (pc + 1) ls (.int v :: rest))) : W p l e R s m args below meth c H locs cells slots Q (F0 m pc ls (.int i :: .ref a :: rest)) :=
  va_zald C.1 C.2.1 h.1.1 h.2.1 q0 4 he rfl hin hdg (hv ▸ kk)
theorem x_zast (C : CallFix p m c cc nL s args gw own) (h : Wd G s A w H locs) (q0 : Nat) {n : Nat} {f f' : Nat → Int32} (he : w[q0]? = some (a, eZ G n f)) {i x : Int32} (hin : vp_in i n) (hf : upd f i.toNatClampNeg (vp_nar .boolean x) = f') (hw : w.set q0 (a, eZ G n f') = w') (hdg : decode cc pc = .ok (.bastore, 1))
    (kk : ∀ (H1 : Heap) (locs1 : List Loc), Wd G s A w' H1 locs1 → W p l e R s m args below meth c H1 locs1 cells slots Q (F0 m (pc + 1) ls rest)) : W p l e R s m args below meth c H locs cells slots Q (F0 m pc ls (.int x :: .int i :: .ref a :: rest)) :=
  va_zast C.1 C.2.1 h.1.1 h.2.1 h.2.2.1 h.2.2.2.1 q0 4 he rfl hin hdg (fun H1 L1 hP hD hS => kk H1 L1 ⟨h.1, by rw [← hw, ← hf]; exact hP, by rw [← hw, ← hf]; exact hD, hS, h.2.2.2.2⟩)
theorem x_cald (C : CallFix p m c cc nL s args gw own) (h : Wd G s A w H locs) (q0 : Nat) {n : Nat} {f : Nat → Int32} (he : w[q0]? = some (a, eC G n f)) {i v : Int32} (hin : vp_in i n) (hv : f i.toNatClampNeg = v) (hdg : decode cc pc = .ok (.caload, 1))
    (kk : W p l e R s m args below meth c H locs cells slots Q (F0 m (pc + 1) ls (.int v :: rest))) : W p l e R s m args below meth c H locs cells slots Q (F0 m pc ls (.int i :: .ref a :: rest)) :=
  va_cald C.1 C.2.1 h.1.1 h.2.1 q0 1 he rfl hin hdg (hv ▸ kk)
theorem x_cast (C : CallFix p m c cc nL s args gw own) (h : Wd G s A w H locs) (q0 : Nat) {n : Nat} {f f' : Nat → Int32} (he : w[q0]? = some (a, eC G n f)) {i x : Int32} (hin : vp_in i n) (hf : upd f i.toNatClampNeg (vp_nar .char x) = f') (hw : w.set q0 (a, eC G n f') = w') (hdg : decode cc pc = .ok (.castore, 1))
    (kk : ∀ (H1 : Heap) (locs1 : List Loc), Wd G s A w' H1 locs1 → W p l e R s m args below meth c H1 locs1 cells slots Q (F0 m (pc + 1) ls rest)) : W p l e R s m args below meth c H locs cells slots Q (F0 m pc ls (.int x :: .int i :: .ref a :: rest)) :=
  va_cast C.1 C.2.1 h.1.1 h.2.1 h.2.2.1 h.2.2.2.1 q0 1 he rfl hin hdg (fun H1 L1 hP hD hS => kk H1 L1 ⟨h.1, by rw [← hw, ← hf]; exact hP, by rw [← hw, ← hf]; exact hD, hS, h.2.2.2.2⟩)
theorem x_aldSt (C : CallFix p m c cc nL s args gw own) (h : Wd G s A w H locs) (q0 : Nat) {n : Nat} {f : Nat → Option Nat} (he : w[q0]? = some (a, eSt G n f)) {i : Int32} {b : Nat} (hin : vp_in i n) (hv : f i.toNatClampNeg = some b) (hdg : decode cc pc = .ok (.aaload, 1))
    (kk : W p l e R s m args below meth c H locs cells slots Q (F0 m (pc + 1) ls (.ref b :: rest))) : W p l e R s m args below meth c H locs cells slots Q (F0 m pc ls (.int i :: .ref a :: rest)) :=
  va_aldq C.1 C.2.1 h.1.1 h.2.1 q0 6 he rfl hin hdg (by rw [hv]; exact kk)
theorem x_aldIm (C : CallFix p m c cc nL s args gw own) (h : Wd G s A w H locs) (q0 : Nat) {n : Nat} {f : Nat → Option Nat} (he : w[q0]? = some (a, eIm G n f)) {i : Int32} {b : Nat} (hin : vp_in i n) (hv : f i.toNatClampNeg = some b) (hdg : decode cc pc = .ok (.aaload, 1))
    (kk : W p l e R s m args below meth c H locs cells slots Q (F0 m (pc + 1) ls (.ref b :: rest))) : W p l e R s m args below meth c H locs cells slots Q (F0 m pc ls (.int i :: .ref a :: rest)) :=
  va_aldq C.1 C.2.1 h.1.1 h.2.1 q0 5 he rfl hin hdg (by rw [hv]; exact kk)
theorem x_astSt (C : CallFix p m c cc nL s args gw own) (h : Wd G s A w H locs) (q0 qk : Nat) {n v : Nat} {vs : List Value} {f f' : Nat → Option Nat} (he : w[q0]? = some (a, eSt G n f)) (hv : w[qk]? = some (v, .inr (7, vs))) {i : Int32} (hin : vp_in i n) (hf : va_up f i.toNatClampNeg (some v) = f') (hw : w.set q0 (a, eSt G n f') = w') (hdg : decode cc pc = .ok (.aastore, 1))
    (kk : ∀ (H1 : Heap) (locs1 : List Loc), Wd G s A w' H1 locs1 → W p l e R s m args below meth c H1 locs1 cells slots Q (F0 m (pc + 1) ls rest)) : W p l e R s m args below meth c H locs cells slots Q (F0 m pc ls (.ref v :: .int i :: .ref a :: rest)) :=
  va_astq (r := (RX8, TX8, 11)) C.1 C.2.1 h.1.1 h.2.1 h.2.2.1 h.2.2.2.1 q0 6 qk 7 he rfl hv rfl hin hdg (fun H1 L1 hP hD hS => kk H1 L1 ⟨h.1, by rw [← hw, ← hf]; exact hP, by rw [← hw, ← hf]; exact hD, hS, h.2.2.2.2⟩)
theorem x_astIm (C : CallFix p m c cc nL s args gw own) (h : Wd G s A w H locs) (q0 qk : Nat) {n v : Nat} {vs : List Value} {f f' : Nat → Option Nat} (he : w[q0]? = some (a, eIm G n f)) (hv : w[qk]? = some (v, .inr (3, vs))) {i : Int32} (hin : vp_in i n) (hf : va_up f i.toNatClampNeg (some v) = f') (hw : w.set q0 (a, eIm G n f') = w') (hdg : decode cc pc = .ok (.aastore, 1))
    (kk : ∀ (H1 : Heap) (locs1 : List Loc), Wd G s A w' H1 locs1 → W p l e R s m args below meth c H1 locs1 cells slots Q (F0 m (pc + 1) ls rest)) : W p l e R s m args below meth c H locs cells slots Q (F0 m pc ls (.ref v :: .int i :: .ref a :: rest)) :=
  va_astq (r := (RX3, TX3, 4)) C.1 C.2.1 h.1.1 h.2.1 h.2.2.1 h.2.2.2.1 q0 5 qk 3 he rfl hv rfl hin hdg (fun H1 L1 hP hD hS => kk H1 L1 ⟨h.1, by rw [← hw, ← hf]; exact hP, by rw [← hw, ← hf]; exact hD, hS, h.2.2.2.2⟩)
/-- arraylength: t0 is the array's kind -/
theorem x_alen (C : CallFix p m c cc nL s args gw own) (h : Wd G s A w H locs) (q0 t0 : Nat) {cA : ClassId} {x : vp_A} (he : w[q0]? = some (a, .inl (cA, x))) {ty : FieldType} (ht : (tysG G)[t0]? = some (cA, ty)) {v : Int32} (hv : Int32.ofNat x.1 = v) (hdg : decode cc pc = .ok (.arraylength, 1))
    (kk : W p l e R s m args below meth c H locs cells slots Q (F0 m (pc + 1) ls (.int v :: rest))) : W p l e R s m args below meth c H locs cells slots Q (F0 m pc ls (.ref a :: rest)) :=
  va_alen C.1 C.2.1 h.1.1 h.2.1 q0 t0 he ht hv hdg kk
theorem x_topi {x z : Int32} (hz : x = z) (k : W p l e R s m args below meth c H locs cells slots Q (F0 m pc ls (.int z :: rest))) : W p l e R s m args below meth c H locs cells slots Q (F0 m pc ls (.int x :: rest)) := hz ▸ k
theorem x_topl {x z : Int64} (hz : x = z) (k : W p l e R s m args below meth c H locs cells slots Q (F0 m pc ls (.long z :: rest))) : W p l e R s m args below meth c H locs cells slots Q (F0 m pc ls (.long x :: rest)) := hz ▸ k
theorem RA_inj {c1 c2 : ClassId} {ty : FieldType} (h1 : va_RA s c1 ty) (h2 : va_RA s c2 ty) : c1 = c2 := by
  cases ty with
  | object C =>
    obtain ⟨_, _, _, _, _, a⟩ := h1
    obtain ⟨_, _, _, _, _, b⟩ := h2
    exact Option.some.inj (a.symm.trans b)
  | _ =>
    first
      | exact Option.some.inj (Eq.trans (Eq.symm h1) h2)
theorem x_newa (C : CallFix p m c cc nL s args gw own) (h : Wd G s A w H locs) {atype : ArrayType} {ty : FieldType} (hty : newarray.typeOf atype = ty) (t0 : Nat) {cA : ClassId} (ht : (tysG G)[t0]? = some (cA, ty)) (hg : Cond.arrayClass ty ∈ gw) {n : Int32} {N : Nat} {a0 : vp_A} (ha : ∀ cA : ClassId, vp_cell cA a0 = arrV cA N (fun _ => defaultValue ty)) (hn : ¬ n < 0) (hN : n.toNatClampNeg = N) (hbytes : N * componentBytes ty ≤ 536870912) (hcells : cells + 1 ≤ R.cells) (hslots : slots + N ≤ R.slots) (hdg : decode cc pc = .ok (.newarray atype, 2))
    (kk : ∀ (q : Nat) (H1 : Heap), Wd G s A (w ++ [(q, .inl (cA, a0))]) H1 locs → W p l e R s m args below meth c H1 locs (cells + 1) (slots + N) Q (F0 m (pc + 2) ls (.ref q :: rest))) : W p l e R s m args below meth c H locs cells slots Q (F0 m pc ls (.int n :: rest)) := by
  subst hty
  refine va_newa C.1 C.2.1 (C.2.2.2.2 _ hg) rfl h.1.1 h.2.1 h.2.2.1 h.2.2.2.1 h.2.2.2.2.1 ha hn hN hbytes hcells hslots hdg (fun q cB H1 hK hP hD hS => ?_)
  have e1 : cB = cA := RA_inj (hK.2 7 _ rfl).2 (h.1.1.2 t0 _ ht).2
  subst e1
  exact kk q H1 ⟨h.1, hP, hD, hS, h.2.2.2.2⟩
theorem x_newq (C : CallFix p m c cc nL s args gw own) (h : Wd G s A w H locs) {Cn : String} {index : Nat} (t0 : Nat) {cA : ClassId} (ht : (tysG G)[t0]? = some (cA, .object Cn)) (hcl : Cond.classLink own index Cn ∈ gw) (hover : va_AO Cn s) {n : Int32} {N : Nat} (hn : ¬ n < 0) (hN : n.toNatClampNeg = N) (hbytes : N * 4 ≤ 536870912) (hcells : cells + 1 ≤ R.cells) (hslots : slots + N ≤ R.slots) (hdg : decode cc pc = .ok (.anewarray index, 3))
    (kk : ∀ (q : Nat) (H1 : Heap), Wd G s A (w ++ [(q, .inl (cA, N, .inr (.inr (.inr (.inr (fun _ => none))))))]) H1 locs → W p l e R s m args below meth c H1 locs (cells + 1) (slots + N) Q (F0 m (pc + 3) ls (.ref q :: rest))) : W p l e R s m args below meth c H locs cells slots Q (F0 m pc ls (.int n :: rest)) := by
  refine va_newq C.1 C.2.1 C.2.2.2.1 (C.2.2.2.2 _ hcl) hover h.1.1 h.2.1 h.2.2.1 h.2.2.2.1 h.2.2.2.2.1 hn hN hbytes hcells hslots hdg (fun q cB H1 hK hP hD hS => ?_)
  have e1 : cB = cA := RA_inj (hK.2 7 _ rfl).2 (h.1.1.2 t0 _ ht).2
  subst e1
  exact kk q H1 ⟨h.1, hP, hD, hS, h.2.2.2.2⟩
theorem x_new (C : CallFix p m c cc nL s args gw own) (h : Wd G s A w H locs) {cn : String} {T : u_T} {N : Nat} {index : Nat} (hin : ∀ w ∈ u_ws cn T N, w ∈ gw) {ty0 : Nat → FieldType} (hty : ∀ k, k < N → parseFieldDescriptor (T k).2.2.1 = some (ty0 k)) (ci : Nat) (hc : vwCl[ci]? = some (cn, T, N)) (hcl : Cond.classLink own index cn ∈ gw) (hinst : Cond.instantiable cn N ∈ gw) (hini : Cond.initialized cn ∈ gw) {fs : List Value} (hfs : ∀ j, j < N → defaultValue (ty0 j) = vp_V fs j) (hcells : cells + 1 ≤ R.cells) (hslots : slots + N ≤ R.slots) (hdg : decode cc pc = .ok (.new index, 3))
    (kk : ∀ (q : Nat) (H1 : Heap), Wd G s A (w ++ [(q, .inr (ci, fs))]) H1 locs → W p l e R s m args below meth c H1 locs (cells + 1) (slots + N) Q (F0 m (pc + 3) ls (.ref q :: rest))) : W p l e R s m args below meth c H locs cells slots Q (F0 m pc ls rest) :=
  va_new C.1 C.2.1 C.2.2.2.2 hin ty0 hty C.2.2.2.1 (C.2.2.2.2 _ hcl) (C.2.2.2.2 _ hinst) (C.2.2.2.2 _ hini) h.1.1 h.2.1 h.2.2.1 h.2.2.2.1 h.2.2.2.2.1 hc hfs hcells hslots hdg (fun q H1 hP hD hS => kk q H1 ⟨h.1, hP, hD, hS, h.2.2.2.2⟩)
theorem x_objInit (C : CallFix p m c cc nL s args gw own) {index : Nat} (hlink : Cond.methodLink own index Lib.objectInit ∈ gw) (hsz : ls.size = nL) (hframes : 1 ≤ R.frames) (hlocals : (rest.map fun v => v.category).sum + 12 ≤ R.locals) (hdg : decode cc pc = .ok (.invokespecial index, 3))
    (kk : W p l e R s m args below meth c H locs cells slots Q (F0 m (pc + 3) ls rest)) : W p l e R s m args below meth c H locs cells slots Q (F0 m pc ls (.ref a :: rest)) :=
  W.objInit C.1 C.2.1 C.2.2.2.1 (C.2.2.2.2 _ hlink) (C.2.2.2.2 _ kw30) (C.2.2.2.2 _ kw31) rfl (by rw [C.2.2.1]; exact hsz) rfl hdg hframes (by show 2 * 0 + _ + 12 ≤ _; omega) kk
theorem x_copyi (C : CallFix p m c cc nL s args gw own) (h : Wd G s A w H locs) {index : Nat} (hlink : Cond.methodLink own index arraycopyName ∈ gw) (hsz : ls.size = nL) (q0 q1 : Nat) {a0 n0 n1 : Nat} {f g g' : Nat → Int32} (ha0 : w[q0]? = some (a0, eI G n0 f)) (ha1 : w[q1]? = some (a, eI G n1 g))
    {sp dp n : Int32} (h1 : ¬ sp < 0) (h2 : ¬ dp < 0) (h3 : ¬ n < 0) (h4 : sp.toNatClampNeg + n.toNatClampNeg ≤ n0) (h5 : dp.toNatClampNeg + n.toNatClampNeg ≤ n1) (hg : va_cpy f g sp.toNatClampNeg dp.toNatClampNeg n.toNatClampNeg = g') (hw : w.set q1 (a, eI G n1 g') = w')
    (hframes : 1 ≤ R.frames) (hlocals : (rest.map fun v => v.category).sum + (nativeFrameWords "java/lang/System" "arraycopy" 5 + 11) ≤ R.locals) (hdg : decode cc pc = .ok (.invokestatic index, 3))
    (kk : ∀ (H1 : Heap) (locs1 : List Loc), Wd G s A w' H1 locs1 → W p l e R s m args below meth c H1 locs1 cells slots Q (F0 m (pc + 3) ls rest)) : W p l e R s m args below meth c H locs cells slots Q (F0 m pc ls (.int n :: .int dp :: .ref a :: .int sp :: .ref a0 :: rest)) :=
  va_copyi C.1 C.2.1 (C.2.2.1.trans hsz.symm) C.2.2.2.1 (C.2.2.2.2 _ hlink) (C.2.2.2.2 _ kw632) (C.2.2.2.2 _ kw631) (C.2.2.2.2 _ kw17) h.1.1 h.2.1 h.2.2.1 h.2.2.2.1 q0 q1 2 2 ha0 ha1 rfl rfl rfl h1 h2 h3 h4 h5 (fun _ _ => rfl) hframes hlocals hdg (fun H1 L1 hP hD hS => kk H1 L1 ⟨h.1, by rw [← hw, ← hg]; exact hP, by rw [← hw, ← hg]; exact hD, hS, h.2.2.2.2⟩)
theorem x_copyl (C : CallFix p m c cc nL s args gw own) (h : Wd G s A w H locs) {index : Nat} (hlink : Cond.methodLink own index arraycopyName ∈ gw) (hsz : ls.size = nL) (q0 q1 : Nat) {a0 n0 n1 : Nat} {f g g' : Nat → Int64} (ha0 : w[q0]? = some (a0, eJ G n0 f)) (ha1 : w[q1]? = some (a, eJ G n1 g))
    {sp dp n : Int32} (h1 : ¬ sp < 0) (h2 : ¬ dp < 0) (h3 : ¬ n < 0) (h4 : sp.toNatClampNeg + n.toNatClampNeg ≤ n0) (h5 : dp.toNatClampNeg + n.toNatClampNeg ≤ n1) (hg : va_cpy f g sp.toNatClampNeg dp.toNatClampNeg n.toNatClampNeg = g') (hw : w.set q1 (a, eJ G n1 g') = w')
    (hframes : 1 ≤ R.frames) (hlocals : (rest.map fun v => v.category).sum + (nativeFrameWords "java/lang/System" "arraycopy" 5 + 11) ≤ R.locals) (hdg : decode cc pc = .ok (.invokestatic index, 3))
    (kk : ∀ (H1 : Heap) (locs1 : List Loc), Wd G s A w' H1 locs1 → W p l e R s m args below meth c H1 locs1 cells slots Q (F0 m (pc + 3) ls rest)) : W p l e R s m args below meth c H locs cells slots Q (F0 m pc ls (.int n :: .int dp :: .ref a :: .int sp :: .ref a0 :: rest)) :=
  va_copyl C.1 C.2.1 (C.2.2.1.trans hsz.symm) C.2.2.2.1 (C.2.2.2.2 _ hlink) (C.2.2.2.2 _ kw632) (C.2.2.2.2 _ kw631) (C.2.2.2.2 _ kw17) h.1.1 h.2.1 h.2.2.1 h.2.2.2.1 q0 q1 3 3 ha0 ha1 rfl rfl rfl h1 h2 h3 h4 h5 (fun _ _ => rfl) hframes hlocals hdg (fun H1 L1 hP hD hS => kk H1 L1 ⟨h.1, by rw [← hw, ← hg]; exact hP, by rw [← hw, ← hg]; exact hD, hS, h.2.2.2.2⟩)
end XR
/-- a method's words -/
def Mw (y : MethodName) (cc : ByteArray) (mL : Nat) (rt : Option FieldType) (n : Nat) : Prop := Cond.code y cc mL rt ∈ gw ∧ Cond.initialized y.cls ∈ gw ∧ (y.cls ≠ "java/lang/invoke/MethodHandle" ∧ y.cls ≠ "java/lang/invoke/VarHandle" ∧ (parseMethodDescriptor y.desc).map (fun d => d.parameters.length) = some n)
def MwV (y : MethodName) (cc : ByteArray) (mL : Nat) (rt : Option FieldType) (n : Nat) : Prop := Mw y cc mL rt n ∧ Cond.instanceMethod y ∈ gw ∧ Cond.selects y.cls y y ∈ gw
def MwS (y : MethodName) (cc : ByteArray) (mL : Nat) (rt : Option FieldType) (n : Nat) : Prop := Mw y cc mL rt n ∧ Cond.static y ∈ gw
def MwI (y : MethodName) (cc : ByteArray) (mL : Nat) (n : Nat) : Prop := Mw y cc mL none n ∧ y.name = "<init>" ∧ Cond.instanceMethod y ∈ gw
section XC
variable {p : Program} {l : Launch} {e : Env} {R : Room} {s : State} {m : MethodId} {args : Array Value} {below : List Frame} {meth : Method} {c : Code} {H : Heap} {locs : List Loc} {cells slots : Nat} {Q : State → Prop}
variable {cc : ByteArray} {pc : Nat} {ls : Array Slot} {rest : List Value} {A : Nat → Prop} {a : Nat} {w wc wr : va_W} {G : Gc} {nL : Nat} {own : String}
variable {y : MethodName} {cd : ByteArray} {mL d mc ms n index b : Nat} {rt : Option FieldType} {As st0 av : List Value}
theorem cb_gw (C : CallFix p m c cc nL s args gw own) (hm : Mw y cd mL rt n) (hl : Cond.methodLink own index y ∈ gw) (hR : d + 1 ≤ R.frames ∧ 8 + (mL + 11) + 40 * d ≤ R.locals) : CallB R s args own index y cd mL rt (Cond.code y cd mL rt :: gw) (rmD d mc ms) mc ms n :=
  callB_of n C.2.2.2.2 (gw_in hm.1) rfl rfl rfl (C.2.2.2.2 _ hm.2.1) (C.2.2.2.2 _ hl) hm.2.2 hR
theorem free_of (h : Wd G s A w H locs) (isC : List Nat) (hC : isC.map (fun i => w[i]?) = wc.map some) : ∀ q, va_A wc H.size q → A q := va_free h.2.2.1 h.2.2.2.1 h.2.2.2.2.1 isC hC
theorem pre_of (h : Wd G s A w H locs) (isC : List Nat) (hnC : va_nd isC = true) (hC : isC.map (fun i => w[i]?) = wc.map some) : PreS s H (mPre G av wc H.size) av := by
  have h2 := h.sub isC hnC hC
  refine ⟨mPre_blind _ _ _ _, fun U hU hW => ⟨rfl, by rw [hU], by rw [hU]; exact h2.2.1, mK.warm hW h.1, h2.2.2.1.weaken (fun _ _ _ _ => trivial), ?_⟩⟩
  rw [hU]
  exact mE.moved hW.alike ((mE.kept h.2.2.2.2.2 h.2.2.2.1.2.1).narrow (free_of h isC hC))
theorem back_wd (h : Wd G s A w H locs) (isC isR : List Nat) (hC : isC.map (fun i => w[i]?) = wc.map some) (hR : isR.map (fun i => w[i]?) = wr.map some) (hnR : va_nd isR = true) (hdis : ∀ i ∈ isR, i ∉ isC) {u : va_W} {t : State} {H1 : Heap} {locs1 : List Loc} (ht : t.heap = H1) (hB : mB G (va_A wc H.size) u t) (hk : ∀ q : Nat, q < H.size → ¬ va_A wc H.size q → H1[q]? = H[q]?) (hS : va_S A s.heap H1 locs1) : Wd G s A (wr ++ u) H1 locs1 := by
  obtain ⟨b1, b2⟩ := hB
  rw [ht] at b1
  obtain ⟨j1, j2⟩ := va_join h.2.1 h.2.2.1 isC isR hC hR hnR hdis hk (free_of h isC hC) b1 b2
  exact ⟨h.1, j1, j2, hS, h.2.2.2.2⟩
theorem x_recv (h : Wd G s A w H locs) (isC : List Nat) (hnC : va_nd isC = true) (hC : isC.map (fun i => w[i]?) = wc.map some) (qb : Nat) {ci : Nat} {fs : List Value} {q : vw_C} (hb : wc[qb]? = some (b, .inr (ci, fs))) (hq : vwCl[ci]? = some q) (hqc : q.1 = y.cls) : ∃ cell : Cell, H[b]? = some cell ∧ cell.vm.isStatics = false ∧ s.vm.findClass y.cls = some cell.cls := by
  have h2 := h.sub isC hnC hC
  rw [← hqc]
  exact va_recv h2.1.1 h2.2.1 hq hb
theorem x_calliV {post : Int32 → va_W → Prop} (C : CallFix p m c cc nL s args gw own) (h : Wd G s A w H locs) (hM : Ci l y cd mL rt d mc ms G (.ref b :: As) wc post) (hm : MwV y cd mL rt n) (hl : Cond.methodLink own index y ∈ gw) (isC isR : List Nat) (hC : isC.map (fun i => w[i]?) = wc.map some) (hR : isR.map (fun i => w[i]?) = wr.map some) (hnC : va_nd isC = true) (hnR : va_nd isR = true) (hdis : ∀ i ∈ isR, i ∉ isC) (qb : Nat) {ci : Nat} {fs : List Value} {q : vw_C} (hb : wc[qb]? = some (b, .inr (ci, fs))) (hq : vwCl[ci]? = some q) (hqc : q.1 = y.cls) (hn : As.length = n) (hsz : ls.size = nL) (hst : st0 = As.reverse ++ .ref b :: rest) (hcat : (rest.map fun v => v.category).sum ≤ 8) (hroom : d + 1 ≤ R.frames ∧ 8 + (mL + 11) + 40 * d ≤ R.locals) (hf : cells + mc ≤ R.cells ∧ slots + ms ≤ R.slots) (hdg : decode cc pc = .ok (.invokevirtual index, 3))
    (kk : ∀ (r : Int32) (u : va_W) (H1 : Heap) (locs1 : List Loc), post r u → Wd G s A (wr ++ u) H1 locs1 → W p l e R s m args below meth c H1 locs1 (cells + mc) (slots + ms) Q (F0 m (pc + 3) ls (.int r :: rest))) : W p l e R s m args below meth c H locs cells slots Q (F0 m pc ls st0) :=
  va_calli (va_runV C (hM H.size) ⟨cb_gw C hm.1 hl hroom, C.2.2.2.2 _ hm.2.1, C.2.2.2.2 _ hm.2.2⟩ ⟨(pre_of h isC hnC hC).1, x_recv h isC hnC hC qb hb hq hqc, (pre_of h isC hnC hC).2⟩ rfl hn hsz hst (lv_room hcat) hdg hf) h.2.2.2.1 (fun q _ h9 => free_of h isC hC q h9) (free_of h isC hC) (fun r u t H1 L1 ht _ hp hB _ hk hS => kk r u H1 L1 hp (back_wd h isC isR hC hR hnR hdis ht hB hk hS))
theorem x_callvV {post : va_W → Prop} (C : CallFix p m c cc nL s args gw own) (h : Wd G s A w H locs) (hM : Cv l y cd mL d mc ms G (.ref b :: As) wc post) (hm : MwV y cd mL none n) (hl : Cond.methodLink own index y ∈ gw) (isC isR : List Nat) (hC : isC.map (fun i => w[i]?) = wc.map some) (hR : isR.map (fun i => w[i]?) = wr.map some) (hnC : va_nd isC = true) (hnR : va_nd isR = true) (hdis : ∀ i ∈ isR, i ∉ isC) (qb : Nat) {ci : Nat} {fs : List Value} {q : vw_C} (hb : wc[qb]? = some (b, .inr (ci, fs))) (hq : vwCl[ci]? = some q) (hqc : q.1 = y.cls) (hn : As.length = n) (hsz : ls.size = nL) (hst : st0 = As.reverse ++ .ref b :: rest) (hcat : (rest.map fun v => v.category).sum ≤ 8) (hroom : d + 1 ≤ R.frames ∧ 8 + (mL + 11) + 40 * d ≤ R.locals) (hf : cells + mc ≤ R.cells ∧ slots + ms ≤ R.slots) (hdg : decode cc pc = .ok (.invokevirtual index, 3))
    (kk : ∀ (u : va_W) (H1 : Heap) (locs1 : List Loc), post u → Wd G s A (wr ++ u) H1 locs1 → W p l e R s m args below meth c H1 locs1 (cells + mc) (slots + ms) Q (F0 m (pc + 3) ls rest)) : W p l e R s m args below meth c H locs cells slots Q (F0 m pc ls st0) :=
  va_callv (va_runV C (hM H.size) ⟨cb_gw C hm.1 hl hroom, C.2.2.2.2 _ hm.2.1, C.2.2.2.2 _ hm.2.2⟩ ⟨(pre_of h isC hnC hC).1, x_recv h isC hnC hC qb hb hq hqc, (pre_of h isC hnC hC).2⟩ rfl hn hsz hst (lv_room hcat) hdg hf) h.2.2.2.1 (fun q _ h9 => free_of h isC hC q h9) (free_of h isC hC) (fun u t H1 L1 ht _ hp hB _ hk hS => kk u H1 L1 hp (back_wd h isC isR hC hR hnR hdis ht hB hk hS))
theorem x_calliS {post : Int32 → va_W → Prop} (C : CallFix p m c cc nL s args gw own) (h : Wd G s A w H locs) (hM : Ci l y cd mL rt d mc ms G As wc post) (hm : MwS y cd mL rt n) (hl : Cond.methodLink own index y ∈ gw) (isC isR : List Nat) (hC : isC.map (fun i => w[i]?) = wc.map some) (hR : isR.map (fun i => w[i]?) = wr.map some) (hnC : va_nd isC = true) (hnR : va_nd isR = true) (hdis : ∀ i ∈ isR, i ∉ isC) (hn : As.length = n) (hsz : ls.size = nL) (hst : st0 = As.reverse ++ rest) (hcat : (rest.map fun v => v.category).sum ≤ 8) (hroom : d + 1 ≤ R.frames ∧ 8 + (mL + 11) + 40 * d ≤ R.locals) (hf : cells + mc ≤ R.cells ∧ slots + ms ≤ R.slots) (hdg : decode cc pc = .ok (.invokestatic index, 3))
    (kk : ∀ (r : Int32) (u : va_W) (H1 : Heap) (locs1 : List Loc), post r u → Wd G s A (wr ++ u) H1 locs1 → W p l e R s m args below meth c H1 locs1 (cells + mc) (slots + ms) Q (F0 m (pc + 3) ls (.int r :: rest))) : W p l e R s m args below meth c H locs cells slots Q (F0 m pc ls st0) :=
  va_calli (va_runS C (hM H.size) ⟨cb_gw C hm.1 hl hroom, C.2.2.2.2 _ hm.2⟩ (pre_of h isC hnC hC) rfl hn hsz hst (lv_room hcat) hdg hf) h.2.2.2.1 (fun q _ h9 => free_of h isC hC q h9) (free_of h isC hC) (fun r u t H1 L1 ht _ hp hB _ hk hS => kk r u H1 L1 hp (back_wd h isC isR hC hR hnR hdis ht hB hk hS))
theorem x_callvI {post : va_W → Prop} (C : CallFix p m c cc nL s args gw own) (h : Wd G s A w H locs) (hM : Cv l y cd mL d mc ms G (.ref b :: As) wc post) (hm : MwI y cd mL n) (hl : Cond.methodLink own index y ∈ gw) (isC isR : List Nat) (hC : isC.map (fun i => w[i]?) = wc.map some) (hR : isR.map (fun i => w[i]?) = wr.map some) (hnC : va_nd isC = true) (hnR : va_nd isR = true) (hdis : ∀ i ∈ isR, i ∉ isC) (hn : As.length = n) (hsz : ls.size = nL) (hst : st0 = As.reverse ++ .ref b :: rest) (hcat : (rest.map fun v => v.category).sum ≤ 8) (hroom : d + 1 ≤ R.frames ∧ 8 + (mL + 11) + 40 * d ≤ R.locals) (hf : cells + mc ≤ R.cells ∧ slots + ms ≤ R.slots) (hdg : decode cc pc = .ok (.invokespecial index, 3))
    (kk : ∀ (u : va_W) (H1 : Heap) (locs1 : List Loc), post u → Wd G s A (wr ++ u) H1 locs1 → W p l e R s m args below meth c H1 locs1 (cells + mc) (slots + ms) Q (F0 m (pc + 3) ls rest)) : W p l e R s m args below meth c H locs cells slots Q (F0 m pc ls st0) :=
  va_callv (va_runI C (hM H.size) ⟨cb_gw C hm.1 hl hroom, hm.2.1, C.2.2.2.2 _ hm.2.2⟩ (pre_of h isC hnC hC) rfl hn hsz hst (lv_room hcat) hdg hf) h.2.2.2.1 (fun q _ h9 => free_of h isC hC q h9) (free_of h isC hC) (fun u t H1 L1 ht _ hp hB _ hk hS => kk u H1 L1 hp (back_wd h isC isR hC hR hnR hdis ht hB hk hS))
theorem x_callvIN {post : va_W → Prop} {host : String} (C : CallFix p m c cc nL s args gw own) (h : Wd G s A w H locs) (hM : Cv l y cd mL d mc ms G (.ref b :: As) wc post) (hm : MwI y cd mL n) (hl : va_Nw (.methodLinkNest own index y host) s) (isC isR : List Nat) (hC : isC.map (fun i => w[i]?) = wc.map some) (hR : isR.map (fun i => w[i]?) = wr.map some) (hnC : va_nd isC = true) (hnR : va_nd isR = true) (hdis : ∀ i ∈ isR, i ∉ isC) (hn : As.length = n) (hsz : ls.size = nL) (hst : st0 = As.reverse ++ .ref b :: rest) (hcat : (rest.map fun v => v.category).sum ≤ 8) (hroom : d + 1 ≤ R.frames ∧ 8 + (mL + 11) + 40 * d ≤ R.locals) (hf : cells + mc ≤ R.cells ∧ slots + ms ≤ R.slots) (hdg : decode cc pc = .ok (.invokespecial index, 3))
    (kk : ∀ (u : va_W) (H1 : Heap) (locs1 : List Loc), post u → Wd G s A (wr ++ u) H1 locs1 → W p l e R s m args below meth c H1 locs1 (cells + mc) (slots + ms) Q (F0 m (pc + 3) ls rest)) : W p l e R s m args below meth c H locs cells slots Q (F0 m pc ls st0) :=
  va_callv (va_runIN C (hM H.size) ⟨va_cnB n C.2.2.2.2 (gw_in hm.1.1) rfl rfl rfl hl (C.2.2.2.2 _ hm.1.2.1) hm.1.2.2 hroom, hm.2.1, C.2.2.2.2 _ hm.2.2⟩ (pre_of h isC hnC hC) rfl hn hsz hst (lv_room hcat) hdg hf) h.2.2.2.1 (fun q _ h9 => free_of h isC hC q h9) (free_of h isC hC) (fun u t H1 L1 ht _ hp hB _ hk hS => kk u H1 L1 hp (back_wd h isC isR hC hR hnR hdis ht hB hk hS))
theorem x_calllS {post : Int64 → va_W → Prop} (C : CallFix p m c cc nL s args gw own) (h : Wd G s A w H locs) (hM : Cl l y cd mL d mc ms G As wc post) (hm : MwS y cd mL (some .long) n) (hl : Cond.methodLink own index y ∈ gw) (isC isR : List Nat) (hC : isC.map (fun i => w[i]?) = wc.map some) (hR : isR.map (fun i => w[i]?) = wr.map some) (hnC : va_nd isC = true) (hnR : va_nd isR = true) (hdis : ∀ i ∈ isR, i ∉ isC) (hn : As.length = n) (hsz : ls.size = nL) (hst : st0 = As.reverse ++ rest) (hcat : (rest.map fun v => v.category).sum ≤ 8) (hroom : d + 1 ≤ R.frames ∧ 8 + (mL + 11) + 40 * d ≤ R.locals) (hf : cells + mc ≤ R.cells ∧ slots + ms ≤ R.slots) (hdg : decode cc pc = .ok (.invokestatic index, 3))
    (kk : ∀ (r : Int64) (u : va_W) (H1 : Heap) (locs1 : List Loc), post r u → Wd G s A (wr ++ u) H1 locs1 → W p l e R s m args below meth c H1 locs1 (cells + mc) (slots + ms) Q (F0 m (pc + 3) ls (.long r :: rest))) : W p l e R s m args below meth c H locs cells slots Q (F0 m pc ls st0) :=
  va_calll (va_runS C (hM H.size) ⟨cb_gw C hm.1 hl hroom, C.2.2.2.2 _ hm.2⟩ (pre_of h isC hnC hC) rfl hn hsz hst (lv_room hcat) hdg hf) h.2.2.2.1 (fun q _ h9 => free_of h isC hC q h9) (free_of h isC hC) (fun r u t H1 L1 ht _ hp hB _ hk hS => kk r u H1 L1 hp (back_wd h isC isR hC hR hnR hdis ht hB hk hS))
end XC
theorem iwX0 : ∀ w ∈ u_ws RX0 TX0 2, w ∈ gw := fun w h => List.mem_filter.mpr ⟨(show ∀ w ∈ u_ws RX0 TX0 2, w ∈ lw_tbl by decide +kernel) w h, (show ∀ w ∈ u_ws RX0 TX0 2, goodWord w = true by decide +kernel) w h⟩
theorem iwX1 : ∀ w ∈ u_ws RX1 TX1 6, w ∈ gw := fun w h => List.mem_filter.mpr ⟨(show ∀ w ∈ u_ws RX1 TX1 6, w ∈ lw_tbl by decide +kernel) w h, (show ∀ w ∈ u_ws RX1 TX1 6, goodWord w = true by decide +kernel) w h⟩
theorem iwX2 : ∀ w ∈ u_ws RX2 TX2 3, w ∈ gw := fun w h => List.mem_filter.mpr ⟨(show ∀ w ∈ u_ws RX2 TX2 3, w ∈ lw_tbl by decide +kernel) w h, (show ∀ w ∈ u_ws RX2 TX2 3, goodWord w = true by decide +kernel) w h⟩
theorem iwX3 : ∀ w ∈ u_ws RX3 TX3 4, w ∈ gw := fun w h => List.mem_filter.mpr ⟨(show ∀ w ∈ u_ws RX3 TX3 4, w ∈ lw_tbl by decide +kernel) w h, (show ∀ w ∈ u_ws RX3 TX3 4, goodWord w = true by decide +kernel) w h⟩
theorem iwX5 : ∀ w ∈ u_ws RX5 TX5 18, w ∈ gw := fun w h => List.mem_filter.mpr ⟨(show ∀ w ∈ u_ws RX5 TX5 18, w ∈ lw_tbl by decide +kernel) w h, (show ∀ w ∈ u_ws RX5 TX5 18, goodWord w = true by decide +kernel) w h⟩
theorem iwX6 : ∀ w ∈ u_ws RX6 TX6 7, w ∈ gw := fun w h => List.mem_filter.mpr ⟨(show ∀ w ∈ u_ws RX6 TX6 7, w ∈ lw_tbl by decide +kernel) w h, (show ∀ w ∈ u_ws RX6 TX6 7, goodWord w = true by decide +kernel) w h⟩
theorem iwX7 : ∀ w ∈ u_ws RX7 TX7 7, w ∈ gw := fun w h => List.mem_filter.mpr ⟨(show ∀ w ∈ u_ws RX7 TX7 7, w ∈ lw_tbl by decide +kernel) w h, (show ∀ w ∈ u_ws RX7 TX7 7, goodWord w = true by decide +kernel) w h⟩
theorem iwX8 : ∀ w ∈ u_ws RX8 TX8 11, w ∈ gw := fun w h => List.mem_filter.mpr ⟨(show ∀ w ∈ u_ws RX8 TX8 11, w ∈ lw_tbl by decide +kernel) w h, (show ∀ w ∈ u_ws RX8 TX8 11, goodWord w = true by decide +kernel) w h⟩
theorem iwX9 : ∀ w ∈ u_ws RX9 TX9 12, w ∈ gw := fun w h => List.mem_filter.mpr ⟨(show ∀ w ∈ u_ws RX9 TX9 12, w ∈ lw_tbl by decide +kernel) w h, (show ∀ w ∈ u_ws RX9 TX9 12, goodWord w = true by decide +kernel) w h⟩
theorem iwX10 : ∀ w ∈ u_ws RX10 TX10 17, w ∈ gw := fun w h => List.mem_filter.mpr ⟨(show ∀ w ∈ u_ws RX10 TX10 17, w ∈ lw_tbl by decide +kernel) w h, (show ∀ w ∈ u_ws RX10 TX10 17, goodWord w = true by decide +kernel) w h⟩
theorem iwX11 : ∀ w ∈ u_ws RX11 TX11 44, w ∈ gw := fun w h => List.mem_filter.mpr ⟨(show ∀ w ∈ u_ws RX11 TX11 44, w ∈ lw_tbl by decide +kernel) w h, (show ∀ w ∈ u_ws RX11 TX11 44, goodWord w = true by decide +kernel) w h⟩
end
section
theorem x_in {i : Int32} {n : Nat} (h : decide (¬ (i < 0 ∨ n ≤ i.toNatClampNeg)) = true) : vp_in i n := (of_decide_eq_true h : ¬ (i < 0 ∨ n ≤ i.toNatClampNeg))
theorem x_ne {x y : Int32} {z : Int} (h : ¬ x = y) (hz : y.toInt = z) : x.toInt ≠ z := fun e => h (Int32.toInt_inj.mp (e.trans hz.symm))
theorem x_cpy0 {α : Type} {v : α} {sp dp n : Nat} : va_cpy (fun _ => v) (fun _ => v) sp dp n = fun _ => v := by
  funext j; simp [va_cpy]
theorem x_cpyS {α : Type} (f g : Nat → α) (sp dp k : Nat) : (fun j => if j = dp + k then f (sp + k) else va_cpy f g sp dp k j) = va_cpy f g sp dp (k + 1) := by
  funext j
  simp only [va_cpy]
  by_cases h : j = dp + k
  · subst h
    rw [if_pos rfl, if_pos (by omega), show dp + k - dp = k by omega]
  · rw [if_neg h]
    by_cases h2 : dp ≤ j ∧ j < dp + k
    · rw [if_pos h2, if_pos (by omega)]
    · rw [if_neg h2, if_neg (by omega)]
theorem x_cpyI (f g : Nat → Int32) (sp dp k : Nat) : upd (va_cpy f g sp dp k) (dp + k) (f (sp + k)) = va_cpy f g sp dp (k + 1) := x_cpyS f g sp dp k
theorem x_cpyJ (f g : Nat → Int64) (sp dp k : Nat) : vp_updL (va_cpy f g sp dp k) (dp + k) (f (sp + k)) = va_cpy f g sp dp (k + 1) := x_cpyS f g sp dp k
theorem x_cpyZ {α : Type} (f g : Nat → α) (sp dp : Nat) : va_cpy f g sp dp 0 = g := by
  funext j; simp only [va_cpy]; rw [if_neg (by omega)]
theorem x_updC (v : Int32) (k : Nat) : upd (fun _ => v) k v = fun _ => v := by
  funext j; simp only [upd]; split <;> rfl
theorem x_ltN {k N : Nat} {h : Int32} (hi : k ≤ N) (c : ¬ h ≤ nI k) (hN : h = nI N) : k < N :=
  Nat.lt_of_le_of_ne hi (fun e => c (by rw [hN, e]; exact Int32.le_refl _))
theorem x_calliVR {p : Program} {l : Launch} {e : Env} {R : Room} {s : State} {m : MethodId} {args : Array Value} {below : List Frame} {meth : Method} {c : Code} {H : Heap} {locs : List Loc} {cells slots : Nat} {Q : State → Prop} {cc : ByteArray} {pc : Nat} {ls : Array Slot} {rest : List Value} {A : Nat → Prop} {w wc wr : va_W} {G : Gc} {nL : Nat} {own : String} {y : MethodName} {cd : ByteArray} {mL d mc ms n index b : Nat} {rt : Option FieldType} {As st0 : List Value} {post : Int32 → va_W → Prop} (C : CallFix p m c cc nL s args gw own) (h : Wd G s A w H locs) (hM : Ci l y cd mL rt d mc ms G (.ref b :: As) wc post) (hm : MwV y cd mL rt n) (hl : Cond.methodLink own index y ∈ gw) (isC isR : List Nat) (hC : isC.map (fun i => w[i]?) = wc.map some) (hR : isR.map (fun i => w[i]?) = wr.map some) (hnC : va_nd isC = true) (hnR : va_nd isR = true) (hdis : ∀ i ∈ isR, i ∉ isC) (hrv : ∃ cell : Cell, H[b]? = some cell ∧ cell.vm.isStatics = false ∧ s.vm.findClass y.cls = some cell.cls) (hn : As.length = n) (hsz : ls.size = nL) (hst : st0 = As.reverse ++ .ref b :: rest) (hcat : (rest.map fun v => v.category).sum ≤ 8) (hroom : d + 1 ≤ R.frames ∧ 8 + (mL + 11) + 40 * d ≤ R.locals) (hf : cells + mc ≤ R.cells ∧ slots + ms ≤ R.slots) (hdg : decode cc pc = .ok (.invokevirtual index, 3))
    (kk : ∀ (r : Int32) (u : va_W) (H1 : Heap) (locs1 : List Loc), post r u → Wd G s A (wr ++ u) H1 locs1 → W p l e R s m args below meth c H1 locs1 (cells + mc) (slots + ms) Q (F0 m (pc + 3) ls (.int r :: rest))) : W p l e R s m args below meth c H locs cells slots Q (F0 m pc ls st0) :=
  va_calli (va_runV C (hM H.size) ⟨cb_gw C hm.1 hl hroom, C.2.2.2.2 _ hm.2.1, C.2.2.2.2 _ hm.2.2⟩ ⟨(pre_of h isC hnC hC).1, hrv, (pre_of h isC hnC hC).2⟩ rfl hn hsz hst (lv_room hcat) hdg hf) h.2.2.2.1 (fun q _ h9 => free_of h isC hC q h9) (free_of h isC hC) (fun r u t H1 L1 ht _ hp hB _ hk hS => kk r u H1 L1 hp (back_wd h isC isR hC hR hnR hdis ht hB hk hS))
theorem x_callvS {p : Program} {l : Launch} {e : Env} {R : Room} {s : State} {m : MethodId} {args : Array Value} {below : List Frame} {meth : Method} {c : Code} {H : Heap} {locs : List Loc} {cells slots : Nat} {Q : State → Prop} {cc : ByteArray} {pc : Nat} {ls : Array Slot} {rest : List Value} {A : Nat → Prop} {w wc wr : va_W} {G : Gc} {nL : Nat} {own : String} {y : MethodName} {cd : ByteArray} {mL d mc ms n index : Nat} {As st0 : List Value} {post : va_W → Prop} (C : CallFix p m c cc nL s args gw own) (h : Wd G s A w H locs) (hM : Cv l y cd mL d mc ms G As wc post) (hm : MwS y cd mL none n) (hl : Cond.methodLink own index y ∈ gw) (isC isR : List Nat) (hC : isC.map (fun i => w[i]?) = wc.map some) (hR : isR.map (fun i => w[i]?) = wr.map some) (hnC : va_nd isC = true) (hnR : va_nd isR = true) (hdis : ∀ i ∈ isR, i ∉ isC) (hn : As.length = n) (hsz : ls.size = nL) (hst : st0 = As.reverse ++ rest) (hcat : (rest.map fun v => v.category).sum ≤ 8) (hroom : d + 1 ≤ R.frames ∧ 8 + (mL + 11) + 40 * d ≤ R.locals) (hf : cells + mc ≤ R.cells ∧ slots + ms ≤ R.slots) (hdg : decode cc pc = .ok (.invokestatic index, 3))
    (kk : ∀ (u : va_W) (H1 : Heap) (locs1 : List Loc), post u → Wd G s A (wr ++ u) H1 locs1 → W p l e R s m args below meth c H1 locs1 (cells + mc) (slots + ms) Q (F0 m (pc + 3) ls rest)) : W p l e R s m args below meth c H locs cells slots Q (F0 m pc ls st0) :=
  va_callv (va_runS C (hM H.size) ⟨cb_gw C hm.1 hl hroom, C.2.2.2.2 _ hm.2⟩ (pre_of h isC hnC hC) rfl hn hsz hst (lv_room hcat) hdg hf) h.2.2.2.1 (fun q _ h9 => free_of h isC hC q h9) (free_of h isC hC) (fun u t H1 L1 ht _ hp hB _ hk hS => kk u H1 L1 hp (back_wd h isC isR hC hR hnR hdis ht hB hk hS))
theorem nst0 {G : Gc} {s : State} (h : mK G s) : va_Nw (.methodLinkNest "LanternState" 18 ⟨"LanternState$Scene", "<init>", "()V"⟩ "LanternState") s := h.2.1 ("LanternState", 18, ⟨"LanternState$Scene", "<init>", "()V"⟩, "LanternState") (List.mem_of_getElem? (i := 0) rfl)
theorem nst1 {G : Gc} {s : State} (h : mK G s) : va_Nw (.methodLinkNest "LanternState" 28 ⟨"LanternState$State", "<init>", "()V"⟩ "LanternState") s := h.2.1 ("LanternState", 28, ⟨"LanternState$State", "<init>", "()V"⟩, "LanternState") (List.mem_of_getElem? (i := 1) rfl)
theorem nst2 {G : Gc} {s : State} (h : mK G s) : va_Nw (.methodLinkNest "LanternState$History" 17 ⟨"LanternState$State", "<init>", "()V"⟩ "LanternState") s := h.2.1 ("LanternState$History", 17, ⟨"LanternState$State", "<init>", "()V"⟩, "LanternState") (List.mem_of_getElem? (i := 2) rfl)
theorem nst3 {G : Gc} {s : State} (h : mK G s) : va_Nw (.methodLinkNest "LanternState" 45 ⟨"LanternState$Sentence", "<init>", "()V"⟩ "LanternState") s := h.2.1 ("LanternState", 45, ⟨"LanternState$Sentence", "<init>", "()V"⟩, "LanternState") (List.mem_of_getElem? (i := 3) rfl)
theorem nst4 {G : Gc} {s : State} (h : mK G s) : va_Nw (.methodLinkNest "LanternState" 55 ⟨"LanternState$Book", "<init>", "()V"⟩ "LanternState") s := h.2.1 ("LanternState", 55, ⟨"LanternState$Book", "<init>", "()V"⟩, "LanternState") (List.mem_of_getElem? (i := 4) rfl)
theorem nst5 {G : Gc} {s : State} (h : mK G s) : va_Nw (.methodLinkNest "LanternState" 62 ⟨"LanternState$Search", "<init>", "()V"⟩ "LanternState") s := h.2.1 ("LanternState", 62, ⟨"LanternState$Search", "<init>", "()V"⟩, "LanternState") (List.mem_of_getElem? (i := 5) rfl)
theorem nst6 {G : Gc} {s : State} (h : mK G s) : va_Nw (.methodLinkNest "LanternState" 69 ⟨"LanternState$Bill", "<init>", "()V"⟩ "LanternState") s := h.2.1 ("LanternState", 69, ⟨"LanternState$Bill", "<init>", "()V"⟩, "LanternState") (List.mem_of_getElem? (i := 6) rfl)
theorem nst7 {G : Gc} {s : State} (h : mK G s) : va_Nw (.methodLinkNest "LanternState" 91 ⟨"LanternState$Image", "<init>", "()V"⟩ "LanternState") s := h.2.1 ("LanternState", 91, ⟨"LanternState$Image", "<init>", "()V"⟩, "LanternState") (List.mem_of_getElem? (i := 7) rfl)
theorem nst8 {G : Gc} {s : State} (h : mK G s) : va_Nw (.methodLinkNest "LanternState$Image" 9 ⟨"LanternState$Scene", "<init>", "()V"⟩ "LanternState") s := h.2.1 ("LanternState$Image", 9, ⟨"LanternState$Scene", "<init>", "()V"⟩, "LanternState") (List.mem_of_getElem? (i := 8) rfl)
theorem nst9 {G : Gc} {s : State} (h : mK G s) : va_Nw (.methodLinkNest "LanternState$Image" 18 ⟨"LanternState$State", "<init>", "()V"⟩ "LanternState") s := h.2.1 ("LanternState$Image", 18, ⟨"LanternState$State", "<init>", "()V"⟩, "LanternState") (List.mem_of_getElem? (i := 9) rfl)
theorem nst10 {G : Gc} {s : State} (h : mK G s) : va_Nw (.methodLinkNest "LanternState$Image" 25 ⟨"LanternState$Sentence", "<init>", "()V"⟩ "LanternState") s := h.2.1 ("LanternState$Image", 25, ⟨"LanternState$Sentence", "<init>", "()V"⟩, "LanternState") (List.mem_of_getElem? (i := 10) rfl)
theorem strk0 {G : Gc} {s : State} (h : mK G s) : vk_R "LanternState$Tape" 19 "slide hearer likes hates near after pass spread lamp front behind shown over scratch sits hour or and not so cracked even like light heat sighs number " (G.2.2.1 0) s := h.2.2.2.2.1 ("LanternState$Tape", 19, "slide hearer likes hates near after pass spread lamp front behind shown over scratch sits hour or and not so cracked even like light heat sighs number ", 0) (List.mem_of_getElem? (i := 0) rfl)
theorem strk1 {G : Gc} {s : State} (h : mK G s) : vk_R "LanternState$Bill" 34 " is so" (G.2.2.1 1) s := h.2.2.2.2.1 ("LanternState$Bill", 34, " is so", 1) (List.mem_of_getElem? (i := 1) rfl)
theorem strk2 {G : Gc} {s : State} (h : mK G s) : vk_R "LanternState$Bill" 43 " is cracked" (G.2.2.1 2) s := h.2.2.2.2.1 ("LanternState$Bill", 43, " is cracked", 2) (List.mem_of_getElem? (i := 2) rfl)
theorem strk3 {G : Gc} {s : State} (h : mK G s) : vk_R "LanternState$Bill" 45 " is not so" (G.2.2.1 3) s := h.2.2.2.2.1 ("LanternState$Bill", 45, " is not so", 3) (List.mem_of_getElem? (i := 3) rfl)
theorem strk4 {G : Gc} {s : State} (h : mK G s) : vk_R "LanternState$Bill" 51 " for " (G.2.2.1 4) s := h.2.2.2.2.1 ("LanternState$Bill", 51, " for ", 4) (List.mem_of_getElem? (i := 4) rfl)
theorem strk5 {G : Gc} {s : State} (h : mK G s) : vk_R "LanternState" 138 "no such slide or what" (G.2.2.1 5) s := h.2.2.2.2.1 ("LanternState", 138, "no such slide or what", 5) (List.mem_of_getElem? (i := 5) rfl)
theorem strk6 {G : Gc} {s : State} (h : mK G s) : vk_R "LanternState" 191 "no such hearer or what" (G.2.2.1 6) s := h.2.2.2.2.1 ("LanternState", 191, "no such hearer or what", 6) (List.mem_of_getElem? (i := 6) rfl)
theorem x_geN {k N : Nat} {h : Int32} (hi : k ≤ N) (c : h ≤ nI k) (hN : h = nI N) (h31 : N < 2 ^ 31) : k = N := by
  rcases Nat.lt_or_eq_of_le hi with q | q
  · rw [hN] at c
    exact absurd c (nI_ge q h31)
  · exact q
theorem x_cpyN {f g : Nat → Int32} {k : Nat} (h : k < 2 ^ 31) : upd (va_cpy f g 0 0 k) (nI k).toNatClampNeg (f (nI k).toNatClampNeg) = va_cpy f g 0 0 (k + 1) := by
  rw [nI_clamp h]
  have := x_cpyI f g 0 0 k
  rw [Nat.zero_add] at this
  exact this
end
section
theorem dX9_open_0 : decode cX9_open 0 = .ok (.aload_n 0, 1) := by decide +kernel
theorem dX9_open_1 : decode cX9_open 1 = .ok (.iload_n 1, 1) := by decide +kernel
theorem dX9_open_2 : decode cX9_open 2 = .ok (.putfield 47, 3) := by decide +kernel
theorem dX9_open_5 : decode cX9_open 5 = .ok (.aload_n 0, 1) := by decide +kernel
theorem dX9_open_6 : decode cX9_open 6 = .ok (.iconst 0, 1) := by decide +kernel
theorem dX9_open_7 : decode cX9_open 7 = .ok (.putfield 50, 3) := by decide +kernel
theorem dX9_open_10 : decode cX9_open 10 = .ok (.aload_n 0, 1) := by decide +kernel
theorem dX9_open_11 : decode cX9_open 11 = .ok (.iconst 0, 1) := by decide +kernel
theorem dX9_open_12 : decode cX9_open 12 = .ok (.putfield 53, 3) := by decide +kernel
theorem dX9_open_15 : decode cX9_open 15 = .ok (.aload_n 0, 1) := by decide +kernel
theorem dX9_open_16 : decode cX9_open 16 = .ok (.iconst 0, 1) := by decide +kernel
theorem dX9_open_17 : decode cX9_open 17 = .ok (.putfield 56, 3) := by decide +kernel
theorem dX9_open_20 : decode cX9_open 20 = .ok (.return_, 1) := by decide +kernel
-- Tape.open
set_option maxHeartbeats 4000000 in
set_option maxRecDepth 100000 in
theorem c_X9_open {l : Launch} {G : Gc} (qt : Nat) (m9 : Int32) (kc : Nat) (bys : Nat) (tsz : Int32) (tmo : Int32) (tfr : Int32) (tki : Int32) (tpl : Int32) (tva : Int32) (tco : Int64) (tke : Int32) (tfa : Int32) (tfp : Int32)  : Cv l yX9_open cX9_open 2 0 0 0 G [.ref qt, .int m9] [(qt, .inr (8, [.ref kc, .ref bys, .int tsz, .int tmo, .int tfr, .int tki, .int tpl, .int tva, .long tco, .int tke, .int tfa, .int tfp]))] (fun (u9 : va_W) => u9 = [(qt, .inr (8, [.ref kc, .ref bys, .int tsz, .int m9, .int 0, .int tki, .int tpl, .int tva, .long tco, .int tke, .int 0, .int 0]))]) := by
  refine Cv.of (by decide) (Nat.le_of_ble_eq_true rfl) ?_
  intro p e s m below meth c ls A B hw hl
  have C : CallFix p m c cX9_open 2 s _ gw "LanternState$Tape" := B.1
  have hl : lv_has ls 2 [(0, .ref qt), (1, .int m9)] := hl
  refine lv_aload_n C.1 C.2.1 dX9_open_0 rfl (lv_at hl 0 rfl) ?_
  refine lv_iload_n C.1 C.2.1 dX9_open_1 rfl (lv_at hl 1 rfl) ?_
  refine x_put (w' := [(qt, .inr (8, [.ref kc, .ref bys, .int tsz, .int m9, .int tfr, .int tki, .int tpl, .int tva, .long tco, .int tke, .int tfa, .int tfp]))]) C hw iwX9 tyX9_ok nmX9 8 rfl 0 rfl 3 (by decide) kw92 rfl rfl rfl (Nat.le_of_ble_eq_true rfl) rfl dX9_open_2 (fun H locs hw => ?_)
  refine lv_aload_n C.1 C.2.1 dX9_open_5 rfl (lv_at hl 0 rfl) ?_
  refine lv_iconst (v := 0) C.1 C.2.1 dX9_open_6 (by decide) ?_
  refine x_put (w' := [(qt, .inr (8, [.ref kc, .ref bys, .int tsz, .int m9, .int 0, .int tki, .int tpl, .int tva, .long tco, .int tke, .int tfa, .int tfp]))]) C hw iwX9 tyX9_ok nmX9 8 rfl 0 rfl 4 (by decide) kw93 rfl rfl rfl (Nat.le_of_ble_eq_true rfl) rfl dX9_open_7 (fun H locs hw => ?_)
  refine lv_aload_n C.1 C.2.1 dX9_open_10 rfl (lv_at hl 0 rfl) ?_
  refine lv_iconst (v := 0) C.1 C.2.1 dX9_open_11 (by decide) ?_
  refine x_put (w' := [(qt, .inr (8, [.ref kc, .ref bys, .int tsz, .int m9, .int 0, .int tki, .int tpl, .int tva, .long tco, .int tke, .int 0, .int tfp]))]) C hw iwX9 tyX9_ok nmX9 8 rfl 0 rfl 10 (by decide) kw110 rfl rfl rfl (Nat.le_of_ble_eq_true rfl) rfl dX9_open_12 (fun H locs hw => ?_)
  refine lv_aload_n C.1 C.2.1 dX9_open_15 rfl (lv_at hl 0 rfl) ?_
  refine lv_iconst (v := 0) C.1 C.2.1 dX9_open_16 (by decide) ?_
  refine x_put (w' := [(qt, .inr (8, [.ref kc, .ref bys, .int tsz, .int m9, .int 0, .int tki, .int tpl, .int tva, .long tco, .int tke, .int 0, .int 0]))]) C hw iwX9 tyX9_ok nmX9 8 rfl 0 rfl 11 (by decide) kw113 rfl rfl rfl (Nat.le_of_ble_eq_true rfl) rfl dX9_open_17 (fun H locs hw => ?_)
  exact x_retv B hw rfl (Nat.le_of_ble_eq_true rfl) (Nat.le_of_ble_eq_true rfl) dX9_open_20
theorem dX9_at_0 : decode cX9_at 0 = .ok (.iload_n 1, 1) := by decide +kernel
theorem dX9_at_1 : decode cX9_at 1 = .ok (.ifCond .lt 31, 3) := by decide +kernel
theorem dX9_at_4 : decode cX9_at 4 = .ok (.iload_n 1, 1) := by decide +kernel
theorem dX9_at_5 : decode cX9_at 5 = .ok (.aload_n 0, 1) := by decide +kernel
theorem dX9_at_6 : decode cX9_at 6 = .ok (.getfield 33, 3) := by decide +kernel
theorem dX9_at_9 : decode cX9_at 9 = .ok (.if_icmp .ge 23, 3) := by decide +kernel
theorem dX9_at_32 : decode cX9_at 32 = .ok (.iconst (-1), 1) := by decide +kernel
theorem dX9_at_33 : decode cX9_at 33 = .ok (.ireturn, 1) := by decide +kernel
-- Tape.at(0) of an empty tape
set_option maxHeartbeats 4000000 in
set_option maxRecDepth 100000 in
theorem c_X9_at0 {l : Launch} {G : Gc} (qt : Nat) (kc : Nat) (bys : Nat) (tmo : Int32) (tki : Int32) (tpl : Int32) (tva : Int32) (tco : Int64) (tke : Int32) (tfa : Int32) (tfp : Int32)  : Ci l yX9_at cX9_at 2 (some .int) 0 0 0 G [.ref qt, .int 0] [(qt, .inr (8, [.ref kc, .ref bys, .int 0, .int tmo, .int 0, .int tki, .int tpl, .int tva, .long tco, .int tke, .int tfa, .int tfp]))] (fun (r9 : Int32) (u9 : va_W) => r9 = (-1) ∧ u9 = [(qt, .inr (8, [.ref kc, .ref bys, .int 0, .int tmo, .int 0, .int tki, .int tpl, .int tva, .long tco, .int tke, .int tfa, .int tfp]))]) := by
  refine Ci.of (by decide) (Nat.le_of_ble_eq_true rfl) ?_
  intro p e s m below meth c ls A B hw hl
  have C : CallFix p m c cX9_at 2 s _ gw "LanternState$Tape" := B.1
  have hl : lv_has ls 2 [(0, .ref qt), (1, .int 0)] := hl
  refine lv_iload_n C.1 C.2.1 dX9_at_0 rfl (lv_at hl 1 rfl) ?_
  refine lv_if_lt (tgt := 32) C.1 C.2.1 dX9_at_1 (by decide) (fun h9 => absurd h9 (by decide)) (fun _ => ?_)
  refine lv_iload_n C.1 C.2.1 dX9_at_4 rfl (lv_at hl 1 rfl) ?_
  refine lv_aload_n C.1 C.2.1 dX9_at_5 rfl (lv_at hl 0 rfl) ?_
  refine x_get C hw iwX9 8 rfl 0 rfl 2 (by decide) kw91 rfl dX9_at_6 ?_
  refine lv_icmp_ge (tgt := 32) C.1 C.2.1 dX9_at_9 (by decide) (fun _ => ?_) (fun h9 => absurd (by decide) h9)
  refine lv_iconst (v := (-1)) C.1 C.2.1 dX9_at_32 (by decide) ?_
  exact x_reti B hw ⟨rfl, rfl⟩ (Nat.le_of_ble_eq_true rfl) (Nat.le_of_ble_eq_true rfl) dX9_at_33
theorem dX9_next_0 : decode cX9_next 0 = .ok (.aload_n 0, 1) := by decide +kernel
theorem dX9_next_1 : decode cX9_next 1 = .ok (.aload_n 0, 1) := by decide +kernel
theorem dX9_next_2 : decode cX9_next 2 = .ok (.getfield 50, 3) := by decide +kernel
theorem dX9_next_5 : decode cX9_next 5 = .ok (.invokevirtual 37, 3) := by decide +kernel
theorem mwX9_at : MwV yX9_at cX9_at 2 (some .int) 1 := ⟨⟨kw533, kw2, by decide +kernel⟩, kw532, kS1⟩
theorem dX9_next_8 : decode cX9_next 8 = .ok (.istore_n 1, 1) := by decide +kernel
theorem dX9_next_9 : decode cX9_next 9 = .ok (.aload_n 0, 1) := by decide +kernel
theorem dX9_next_10 : decode cX9_next 10 = .ok (.getfield 50, 3) := by decide +kernel
theorem dX9_next_13 : decode cX9_next 13 = .ok (.aload_n 0, 1) := by decide +kernel
theorem dX9_next_14 : decode cX9_next 14 = .ok (.getfield 33, 3) := by decide +kernel
theorem dX9_next_17 : decode cX9_next 17 = .ok (.if_icmp .ge 37, 3) := by decide +kernel
theorem dX9_next_54 : decode cX9_next 54 = .ok (.aload_n 0, 1) := by decide +kernel
theorem dX9_next_55 : decode cX9_next 55 = .ok (.aload_n 0, 1) := by decide +kernel
theorem dX9_next_56 : decode cX9_next 56 = .ok (.getfield 50, 3) := by decide +kernel
theorem dX9_next_59 : decode cX9_next 59 = .ok (.putfield 59, 3) := by decide +kernel
theorem dX9_next_62 : decode cX9_next 62 = .ok (.aload_n 0, 1) := by decide +kernel
theorem dX9_next_63 : decode cX9_next 63 = .ok (.iconst 0, 1) := by decide +kernel
theorem dX9_next_64 : decode cX9_next 64 = .ok (.putfield 62, 3) := by decide +kernel
theorem dX9_next_67 : decode cX9_next 67 = .ok (.aload_n 0, 1) := by decide +kernel
theorem dX9_next_68 : decode cX9_next 68 = .ok (.lconst 0, 1) := by decide +kernel
theorem dX9_next_69 : decode cX9_next 69 = .ok (.putfield 65, 3) := by decide +kernel
theorem dX9_next_72 : decode cX9_next 72 = .ok (.aload_n 0, 1) := by decide +kernel
theorem dX9_next_73 : decode cX9_next 73 = .ok (.iconst (-1), 1) := by decide +kernel
theorem dX9_next_74 : decode cX9_next 74 = .ok (.putfield 69, 3) := by decide +kernel
theorem dX9_next_77 : decode cX9_next 77 = .ok (.aload_n 0, 1) := by decide +kernel
theorem dX9_next_78 : decode cX9_next 78 = .ok (.getfield 33, 3) := by decide +kernel
theorem dX9_next_81 : decode cX9_next 81 = .ok (.aload_n 0, 1) := by decide +kernel
theorem dX9_next_82 : decode cX9_next 82 = .ok (.getfield 47, 3) := by decide +kernel
theorem dX9_next_85 : decode cX9_next 85 = .ok (.if_icmp .le 30, 3) := by decide +kernel
theorem dX9_next_115 : decode cX9_next 115 = .ok (.aload_n 0, 1) := by decide +kernel
theorem dX9_next_116 : decode cX9_next 116 = .ok (.getfield 50, 3) := by decide +kernel
theorem dX9_next_119 : decode cX9_next 119 = .ok (.aload_n 0, 1) := by decide +kernel
theorem dX9_next_120 : decode cX9_next 120 = .ok (.getfield 33, 3) := by decide +kernel
theorem dX9_next_123 : decode cX9_next 123 = .ok (.if_icmp .lt 11, 3) := by decide +kernel
theorem dX9_next_126 : decode cX9_next 126 = .ok (.aload_n 0, 1) := by decide +kernel
theorem dX9_next_127 : decode cX9_next 127 = .ok (.iconst 0, 1) := by decide +kernel
theorem dX9_next_128 : decode cX9_next 128 = .ok (.putfield 72, 3) := by decide +kernel
theorem dX9_next_131 : decode cX9_next 131 = .ok (.goto 82, 3) := by decide +kernel
theorem dX9_next_213 : decode cX9_next 213 = .ok (.return_, 1) := by decide +kernel
-- Tape.next on an empty tape
set_option maxHeartbeats 4000000 in
set_option maxRecDepth 100000 in
theorem c_X9_next0 {l : Launch} {G : Gc} (qt : Nat) (kc : Nat) (bys : Nat) (tmo : Int32) (tki : Int32) (tpl : Int32) (tva : Int32) (tco : Int64) (tke : Int32) (tfa : Int32) (tfp : Int32) (hm : (0 : Int32) ≤ tmo) : Cv l yX9_next cX9_next 2 1 0 0 G [.ref qt] [(qt, .inr (8, [.ref kc, .ref bys, .int 0, .int tmo, .int 0, .int tki, .int tpl, .int tva, .long tco, .int tke, .int tfa, .int tfp]))] (fun (u9 : va_W) => u9 = [(qt, .inr (8, [.ref kc, .ref bys, .int 0, .int tmo, .int 0, .int 0, .int 0, .int 0, .long 0, .int (-1), .int tfa, .int tfp]))]) := by
  refine Cv.of (by decide) (Nat.le_of_ble_eq_true rfl) ?_
  intro p e s m below meth c ls A B hw hl
  have C : CallFix p m c cX9_next 2 s _ gw "LanternState$Tape" := B.1
  have hl : lv_has ls 2 [(0, .ref qt)] := hl
  refine lv_aload_n C.1 C.2.1 dX9_next_0 rfl (lv_at hl 0 rfl) ?_
  refine lv_aload_n C.1 C.2.1 dX9_next_1 rfl (lv_at hl 0 rfl) ?_
  refine x_get C hw iwX9 8 rfl 0 rfl 4 (by decide) kw93 rfl dX9_next_2 ?_
  refine x_calliV (As := [.int 0]) (rest := []) (wr := []) C hw (c_X9_at0 qt kc bys tmo tki tpl tva tco tke tfa tfp) mwX9_at kw530 [0] [] rfl rfl rfl rfl (by decide) 0 rfl rfl rfl rfl hl.1 rfl (Nat.le_of_ble_eq_true rfl) ⟨(Nat.le_of_ble_eq_true rfl), (Nat.le_of_ble_eq_true rfl)⟩ ⟨(Nat.le_of_ble_eq_true rfl), (Nat.le_of_ble_eq_true rfl)⟩ dX9_next_5 (fun r1 u9 H locs hp9 hw => ?_)
  obtain ⟨rfl, rfl⟩ := hp9
  have hw : Wd G s A [(qt, .inr (8, [.ref kc, .ref bys, .int 0, .int tmo, .int 0, .int tki, .int tpl, .int tva, .long tco, .int tke, .int tfa, .int tfp]))] H _ := hw
  refine lv_istore_n (lv' := [(1, .int (-1)), (0, .ref qt)]) C.1 C.2.1 dX9_next_8 rfl hl (by decide) rfl (fun ls hl => ?_)
  refine lv_aload_n C.1 C.2.1 dX9_next_9 rfl (lv_at hl 1 rfl) ?_
  refine x_get C hw iwX9 8 rfl 0 rfl 4 (by decide) kw93 rfl dX9_next_10 ?_
  refine lv_aload_n C.1 C.2.1 dX9_next_13 rfl (lv_at hl 1 rfl) ?_
  refine x_get C hw iwX9 8 rfl 0 rfl 2 (by decide) kw91 rfl dX9_next_14 ?_
  refine lv_icmp_ge (tgt := 54) C.1 C.2.1 dX9_next_17 (by decide) (fun _ => ?_) (fun h9 => absurd (by decide) h9)
  refine lv_aload_n C.1 C.2.1 dX9_next_54 rfl (lv_at hl 1 rfl) ?_
  refine lv_aload_n C.1 C.2.1 dX9_next_55 rfl (lv_at hl 1 rfl) ?_
  refine x_get C hw iwX9 8 rfl 0 rfl 4 (by decide) kw93 rfl dX9_next_56 ?_
  refine x_put (w' := [(qt, .inr (8, [.ref kc, .ref bys, .int 0, .int tmo, .int 0, .int tki, .int 0, .int tva, .long tco, .int tke, .int tfa, .int tfp]))]) C hw iwX9 tyX9_ok nmX9 8 rfl 0 rfl 6 (by decide) kw98 rfl rfl rfl (Nat.le_of_ble_eq_true rfl) rfl dX9_next_59 (fun H locs hw => ?_)
  refine lv_aload_n C.1 C.2.1 dX9_next_62 rfl (lv_at hl 1 rfl) ?_
  refine lv_iconst (v := 0) C.1 C.2.1 dX9_next_63 (by decide) ?_
  refine x_put (w' := [(qt, .inr (8, [.ref kc, .ref bys, .int 0, .int tmo, .int 0, .int tki, .int 0, .int 0, .long tco, .int tke, .int tfa, .int tfp]))]) C hw iwX9 tyX9_ok nmX9 8 rfl 0 rfl 7 (by decide) kw101 rfl rfl rfl (Nat.le_of_ble_eq_true rfl) rfl dX9_next_64 (fun H locs hw => ?_)
  refine lv_aload_n C.1 C.2.1 dX9_next_67 rfl (lv_at hl 1 rfl) ?_
  refine lv_lconst (v := 0) C.1 C.2.1 dX9_next_68 (by decide) ?_
  refine x_put (w' := [(qt, .inr (8, [.ref kc, .ref bys, .int 0, .int tmo, .int 0, .int tki, .int 0, .int 0, .long 0, .int tke, .int tfa, .int tfp]))]) C hw iwX9 tyX9_ok nmX9 8 rfl 0 rfl 8 (by decide) kw105 rfl rfl rfl (Nat.le_of_ble_eq_true rfl) rfl dX9_next_69 (fun H locs hw => ?_)
  refine lv_aload_n C.1 C.2.1 dX9_next_72 rfl (lv_at hl 1 rfl) ?_
  refine lv_iconst (v := (-1)) C.1 C.2.1 dX9_next_73 (by decide) ?_
  refine x_put (w' := [(qt, .inr (8, [.ref kc, .ref bys, .int 0, .int tmo, .int 0, .int tki, .int 0, .int 0, .long 0, .int (-1), .int tfa, .int tfp]))]) C hw iwX9 tyX9_ok nmX9 8 rfl 0 rfl 9 (by decide) kw109 rfl rfl rfl (Nat.le_of_ble_eq_true rfl) rfl dX9_next_74 (fun H locs hw => ?_)
  refine lv_aload_n C.1 C.2.1 dX9_next_77 rfl (lv_at hl 1 rfl) ?_
  refine x_get C hw iwX9 8 rfl 0 rfl 2 (by decide) kw91 rfl dX9_next_78 ?_
  refine lv_aload_n C.1 C.2.1 dX9_next_81 rfl (lv_at hl 1 rfl) ?_
  refine x_get C hw iwX9 8 rfl 0 rfl 3 (by decide) kw92 rfl dX9_next_82 ?_
  refine lv_icmp_le (tgt := 115) C.1 C.2.1 dX9_next_85 (by decide) (fun _ => ?_) (fun h9 => absurd hm h9)
  refine lv_aload_n C.1 C.2.1 dX9_next_115 rfl (lv_at hl 1 rfl) ?_
  refine x_get C hw iwX9 8 rfl 0 rfl 4 (by decide) kw93 rfl dX9_next_116 ?_
  refine lv_aload_n C.1 C.2.1 dX9_next_119 rfl (lv_at hl 1 rfl) ?_
  refine x_get C hw iwX9 8 rfl 0 rfl 2 (by decide) kw91 rfl dX9_next_120 ?_
  refine lv_icmp_lt (tgt := 134) C.1 C.2.1 dX9_next_123 (by decide) (fun h9 => absurd h9 (by decide)) (fun _ => ?_)
  refine lv_aload_n C.1 C.2.1 dX9_next_126 rfl (lv_at hl 1 rfl) ?_
  refine lv_iconst (v := 0) C.1 C.2.1 dX9_next_127 (by decide) ?_
  refine x_put (w' := [(qt, .inr (8, [.ref kc, .ref bys, .int 0, .int tmo, .int 0, .int 0, .int 0, .int 0, .long 0, .int (-1), .int tfa, .int tfp]))]) C hw iwX9 tyX9_ok nmX9 8 rfl 0 rfl 5 (by decide) kw97 rfl rfl rfl (Nat.le_of_ble_eq_true rfl) rfl dX9_next_128 (fun H locs hw => ?_)
  refine lv_goto (tgt := 213) C.1 C.2.1 dX9_next_131 (by decide) ?_
  exact x_retv B hw rfl (Nat.le_of_ble_eq_true rfl) (Nat.le_of_ble_eq_true rfl) dX9_next_213
theorem dX9_fail_0 : decode cX9_fail 0 = .ok (.aload_n 0, 1) := by decide +kernel
theorem dX9_fail_1 : decode cX9_fail 1 = .ok (.getfield 53, 3) := by decide +kernel
theorem dX9_fail_4 : decode cX9_fail 4 = .ok (.ifCond .ne 16, 3) := by decide +kernel
theorem dX9_fail_7 : decode cX9_fail 7 = .ok (.aload_n 0, 1) := by decide +kernel
theorem dX9_fail_8 : decode cX9_fail 8 = .ok (.iload_n 1, 1) := by decide +kernel
theorem dX9_fail_9 : decode cX9_fail 9 = .ok (.putfield 53, 3) := by decide +kernel
theorem dX9_fail_12 : decode cX9_fail 12 = .ok (.aload_n 0, 1) := by decide +kernel
theorem dX9_fail_13 : decode cX9_fail 13 = .ok (.aload_n 0, 1) := by decide +kernel
theorem dX9_fail_14 : decode cX9_fail 14 = .ok (.getfield 59, 3) := by decide +kernel
theorem dX9_fail_17 : decode cX9_fail 17 = .ok (.putfield 56, 3) := by decide +kernel
theorem dX9_fail_20 : decode cX9_fail 20 = .ok (.iconst 0, 1) := by decide +kernel
theorem dX9_fail_21 : decode cX9_fail 21 = .ok (.ireturn, 1) := by decide +kernel
-- Tape.fail, the first
set_option maxHeartbeats 4000000 in
set_option maxRecDepth 100000 in
theorem c_X9_fail {l : Launch} {G : Gc} (qt : Nat) (f9 : Int32) (kc : Nat) (bys : Nat) (tsz : Int32) (tmo : Int32) (tfr : Int32) (tki : Int32) (tpl : Int32) (tva : Int32) (tco : Int64) (tke : Int32) (tfp : Int32)  : Ci l yX9_fail cX9_fail 2 (some .boolean) 0 0 0 G [.ref qt, .int f9] [(qt, .inr (8, [.ref kc, .ref bys, .int tsz, .int tmo, .int tfr, .int tki, .int tpl, .int tva, .long tco, .int tke, .int 0, .int tfp]))] (fun (r9 : Int32) (u9 : va_W) => r9 = 0 ∧ u9 = [(qt, .inr (8, [.ref kc, .ref bys, .int tsz, .int tmo, .int tfr, .int tki, .int tpl, .int tva, .long tco, .int tke, .int f9, .int tpl]))]) := by
  refine Ci.of (by decide) (Nat.le_of_ble_eq_true rfl) ?_
  intro p e s m below meth c ls A B hw hl
  have C : CallFix p m c cX9_fail 2 s _ gw "LanternState$Tape" := B.1
  have hl : lv_has ls 2 [(0, .ref qt), (1, .int f9)] := hl
  refine lv_aload_n C.1 C.2.1 dX9_fail_0 rfl (lv_at hl 0 rfl) ?_
  refine x_get C hw iwX9 8 rfl 0 rfl 10 (by decide) kw110 rfl dX9_fail_1 ?_
  refine lv_if_ne (tgt := 20) C.1 C.2.1 dX9_fail_4 (by decide) (fun h9 => absurd (by decide) h9) (fun _ => ?_)
  refine lv_aload_n C.1 C.2.1 dX9_fail_7 rfl (lv_at hl 0 rfl) ?_
  refine lv_iload_n C.1 C.2.1 dX9_fail_8 rfl (lv_at hl 1 rfl) ?_
  refine x_put (w' := [(qt, .inr (8, [.ref kc, .ref bys, .int tsz, .int tmo, .int tfr, .int tki, .int tpl, .int tva, .long tco, .int tke, .int f9, .int tfp]))]) C hw iwX9 tyX9_ok nmX9 8 rfl 0 rfl 10 (by decide) kw110 rfl rfl rfl (Nat.le_of_ble_eq_true rfl) rfl dX9_fail_9 (fun H locs hw => ?_)
  refine lv_aload_n C.1 C.2.1 dX9_fail_12 rfl (lv_at hl 0 rfl) ?_
  refine lv_aload_n C.1 C.2.1 dX9_fail_13 rfl (lv_at hl 0 rfl) ?_
  refine x_get C hw iwX9 8 rfl 0 rfl 6 (by decide) kw98 rfl dX9_fail_14 ?_
  refine x_put (w' := [(qt, .inr (8, [.ref kc, .ref bys, .int tsz, .int tmo, .int tfr, .int tki, .int tpl, .int tva, .long tco, .int tke, .int f9, .int tpl]))]) C hw iwX9 tyX9_ok nmX9 8 rfl 0 rfl 11 (by decide) kw113 rfl rfl rfl (Nat.le_of_ble_eq_true rfl) rfl dX9_fail_17 (fun H locs hw => ?_)
  refine lv_iconst (v := 0) C.1 C.2.1 dX9_fail_20 (by decide) ?_
  exact x_retz B hw rfl ⟨rfl, rfl⟩ (Nat.le_of_ble_eq_true rfl) (Nat.le_of_ble_eq_true rfl) dX9_fail_21
theorem dX9_isSign_0 : decode cX9_isSign 0 = .ok (.aload_n 0, 1) := by decide +kernel
theorem dX9_isSign_1 : decode cX9_isSign 1 = .ok (.getfield 72, 3) := by decide +kernel
theorem dX9_isSign_4 : decode cX9_isSign 4 = .ok (.iconst 5, 1) := by decide +kernel
theorem dX9_isSign_5 : decode cX9_isSign 5 = .ok (.if_icmp .ne 15, 3) := by decide +kernel
theorem dX9_isSign_20 : decode cX9_isSign 20 = .ok (.iconst 0, 1) := by decide +kernel
theorem dX9_isSign_21 : decode cX9_isSign 21 = .ok (.ireturn, 1) := by decide +kernel
-- Tape.isSign at the end
set_option maxHeartbeats 4000000 in
set_option maxRecDepth 100000 in
theorem c_X9_isSign0 {l : Launch} {G : Gc} (qt : Nat) (f9 : Int32) (kc : Nat) (bys : Nat) (tsz : Int32) (tmo : Int32) (tfr : Int32) (tpl : Int32) (tva : Int32) (tco : Int64) (tke : Int32) (tfa : Int32) (tfp : Int32)  : Ci l yX9_isSign cX9_isSign 2 (some .boolean) 0 0 0 G [.ref qt, .int f9] [(qt, .inr (8, [.ref kc, .ref bys, .int tsz, .int tmo, .int tfr, .int 0, .int tpl, .int tva, .long tco, .int tke, .int tfa, .int tfp]))] (fun (r9 : Int32) (u9 : va_W) => r9 = 0 ∧ u9 = [(qt, .inr (8, [.ref kc, .ref bys, .int tsz, .int tmo, .int tfr, .int 0, .int tpl, .int tva, .long tco, .int tke, .int tfa, .int tfp]))]) := by
  refine Ci.of (by decide) (Nat.le_of_ble_eq_true rfl) ?_
  intro p e s m below meth c ls A B hw hl
  have C : CallFix p m c cX9_isSign 2 s _ gw "LanternState$Tape" := B.1
  have hl : lv_has ls 2 [(0, .ref qt), (1, .int f9)] := hl
  refine lv_aload_n C.1 C.2.1 dX9_isSign_0 rfl (lv_at hl 0 rfl) ?_
  refine x_get C hw iwX9 8 rfl 0 rfl 5 (by decide) kw97 rfl dX9_isSign_1 ?_
  refine lv_iconst (v := 5) C.1 C.2.1 dX9_isSign_4 (by decide) ?_
  refine lv_icmp_ne (tgt := 20) C.1 C.2.1 dX9_isSign_5 (by decide) (fun _ => ?_) (fun h9 => absurd h9 (by decide))
  refine lv_iconst (v := 0) C.1 C.2.1 dX9_isSign_20 (by decide) ?_
  exact x_retz B hw rfl ⟨rfl, rfl⟩ (Nat.le_of_ble_eq_true rfl) (Nat.le_of_ble_eq_true rfl) dX9_isSign_21
theorem dX9_pictureFrom_0 : decode cX9_pictureFrom 0 = .ok (.aload_n 0, 1) := by decide +kernel
theorem dX9_pictureFrom_1 : decode cX9_pictureFrom 1 = .ok (.getfield 33, 3) := by decide +kernel
theorem dX9_pictureFrom_4 : decode cX9_pictureFrom 4 = .ok (.bipush 8, 2) := by decide +kernel
theorem dX9_pictureFrom_6 : decode cX9_pictureFrom 6 = .ok (.if_icmp .eq 5, 3) := by decide +kernel
theorem dX9_pictureFrom_9 : decode cX9_pictureFrom 9 = .ok (.iconst (-1), 1) := by decide +kernel
theorem dX9_pictureFrom_10 : decode cX9_pictureFrom 10 = .ok (.ireturn, 1) := by decide +kernel
-- Tape.pictureFrom of an empty tape
set_option maxHeartbeats 4000000 in
set_option maxRecDepth 100000 in
theorem c_X9_pic0 {l : Launch} {G : Gc} (qt : Nat) (f9 : Int32) (kc : Nat) (bys : Nat) (tmo : Int32) (tfr : Int32) (tki : Int32) (tpl : Int32) (tva : Int32) (tco : Int64) (tke : Int32) (tfa : Int32) (tfp : Int32)  : Ci l yX9_pictureFrom cX9_pictureFrom 5 (some .int) 0 0 0 G [.ref qt, .int f9] [(qt, .inr (8, [.ref kc, .ref bys, .int 0, .int tmo, .int tfr, .int tki, .int tpl, .int tva, .long tco, .int tke, .int tfa, .int tfp]))] (fun (r9 : Int32) (u9 : va_W) => r9 = (-1) ∧ u9 = [(qt, .inr (8, [.ref kc, .ref bys, .int 0, .int tmo, .int tfr, .int tki, .int tpl, .int tva, .long tco, .int tke, .int tfa, .int tfp]))]) := by
  refine Ci.of (by decide) (Nat.le_of_ble_eq_true rfl) ?_
  intro p e s m below meth c ls A B hw hl
  have C : CallFix p m c cX9_pictureFrom 5 s _ gw "LanternState$Tape" := B.1
  have hl : lv_has ls 5 [(0, .ref qt), (1, .int f9)] := hl
  refine lv_aload_n C.1 C.2.1 dX9_pictureFrom_0 rfl (lv_at hl 0 rfl) ?_
  refine x_get C hw iwX9 8 rfl 0 rfl 2 (by decide) kw91 rfl dX9_pictureFrom_1 ?_
  refine lv_bipush (v := 8) C.1 C.2.1 dX9_pictureFrom_4 (by decide) ?_
  refine lv_icmp_eq (tgt := 11) C.1 C.2.1 dX9_pictureFrom_6 (by decide) (fun h9 => absurd h9 (by decide)) (fun _ => ?_)
  refine lv_iconst (v := (-1)) C.1 C.2.1 dX9_pictureFrom_9 (by decide) ?_
  exact x_reti B hw ⟨rfl, rfl⟩ (Nat.le_of_ble_eq_true rfl) (Nat.le_of_ble_eq_true rfl) dX9_pictureFrom_10
theorem dX9_put_0 : decode cX9_put 0 = .ok (.bipush 24, 2) := by decide +kernel
theorem dX9_put_2 : decode cX9_put 2 = .ok (.istore_n 2, 1) := by decide +kernel
theorem dX9_put_3 : decode cX9_put 3 = .ok (.iload_n 2, 1) := by decide +kernel
theorem dX9_put_4 : decode cX9_put 4 = .ok (.ifCond .lt 42, 3) := by decide +kernel
theorem dX9_put_7 : decode cX9_put 7 = .ok (.aload_n 0, 1) := by decide +kernel
theorem dX9_put_8 : decode cX9_put 8 = .ok (.getfield 33, 3) := by decide +kernel
theorem dX9_put_11 : decode cX9_put 11 = .ok (.sipush 940, 3) := by decide +kernel
theorem dX9_put_14 : decode cX9_put 14 = .ok (.if_icmp .ge 26, 3) := by decide +kernel
theorem dX9_put_17 : decode cX9_put 17 = .ok (.aload_n 0, 1) := by decide +kernel
theorem dX9_put_18 : decode cX9_put 18 = .ok (.getfield 15, 3) := by decide +kernel
theorem dX9_put_21 : decode cX9_put 21 = .ok (.aload_n 0, 1) := by decide +kernel
theorem dX9_put_22 : decode cX9_put 22 = .ok (.getfield 33, 3) := by decide +kernel
theorem dX9_put_25 : decode cX9_put 25 = .ok (.iload_n 1, 1) := by decide +kernel
theorem dX9_put_26 : decode cX9_put 26 = .ok (.iload_n 2, 1) := by decide +kernel
theorem dX9_put_27 : decode cX9_put 27 = .ok (.iushr, 1) := by decide +kernel
theorem dX9_put_28 : decode cX9_put 28 = .ok (.i2b, 1) := by decide +kernel
theorem dX9_put_29 : decode cX9_put 29 = .ok (.bastore, 1) := by decide +kernel
theorem dX9_put_30 : decode cX9_put 30 = .ok (.aload_n 0, 1) := by decide +kernel
theorem dX9_put_31 : decode cX9_put 31 = .ok (.dup, 1) := by decide +kernel
theorem dX9_put_32 : decode cX9_put 32 = .ok (.getfield 33, 3) := by decide +kernel
theorem dX9_put_35 : decode cX9_put 35 = .ok (.iconst 1, 1) := by decide +kernel
theorem dX9_put_36 : decode cX9_put 36 = .ok (.iadd, 1) := by decide +kernel
theorem dX9_put_37 : decode cX9_put 37 = .ok (.putfield 33, 3) := by decide +kernel
theorem dX9_put_40 : decode cX9_put 40 = .ok (.iinc 2 (-8), 3) := by decide +kernel
theorem dX9_put_43 : decode cX9_put 43 = .ok (.goto (-40), 3) := by decide +kernel
theorem dX9_put_46 : decode cX9_put 46 = .ok (.return_, 1) := by decide +kernel
-- Tape.put at 0
set_option maxHeartbeats 4000000 in
set_option maxRecDepth 100000 in
theorem c_X9_put0 {l : Launch} {G : Gc} (qt : Nat) (f9 : Int32) (kc : Nat) (bys : Nat) (tmo : Int32) (tfr : Int32) (tki : Int32) (tpl : Int32) (tva : Int32) (tco : Int64) (tke : Int32) (tfa : Int32) (tfp : Int32) (fb : Nat → Int32)  : Cv l yX9_put cX9_put 3 0 0 0 G [.ref qt, .int f9] [(qt, .inr (8, [.ref kc, .ref bys, .int 0, .int tmo, .int tfr, .int tki, .int tpl, .int tva, .long tco, .int tke, .int tfa, .int tfp])), (bys, eB G 940 fb)] (fun (u9 : va_W) => ∃ (gb : Nat → Int32), u9 = [(qt, .inr (8, [.ref kc, .ref bys, .int 4, .int tmo, .int tfr, .int tki, .int tpl, .int tva, .long tco, .int tke, .int tfa, .int tfp])), (bys, eB G 940 gb)]) := by
  refine Cv.of (by decide) (Nat.le_of_ble_eq_true rfl) ?_
  intro p e s m below meth c ls A B hw hl
  have C : CallFix p m c cX9_put 3 s _ gw "LanternState$Tape" := B.1
  have hl : lv_has ls 3 [(0, .ref qt), (1, .int f9)] := hl
  refine lv_bipush (v := 24) C.1 C.2.1 dX9_put_0 (by decide) ?_
  refine lv_istore_n (lv' := [(2, .int 24), (0, .ref qt), (1, .int f9)]) C.1 C.2.1 dX9_put_2 rfl hl (by decide) rfl (fun ls hl => ?_)
  refine lv_iload_n C.1 C.2.1 dX9_put_3 rfl (lv_at hl 0 rfl) ?_
  refine lv_if_lt (tgt := 46) C.1 C.2.1 dX9_put_4 (by decide) (fun h9 => absurd h9 (by decide)) (fun _ => ?_)
  refine lv_aload_n C.1 C.2.1 dX9_put_7 rfl (lv_at hl 1 rfl) ?_
  refine x_get C hw iwX9 8 rfl 0 rfl 2 (by decide) kw91 rfl dX9_put_8 ?_
  refine lv_sipush (v := 940) C.1 C.2.1 dX9_put_11 (by decide) ?_
  refine lv_icmp_ge (tgt := 40) C.1 C.2.1 dX9_put_14 (by decide) (fun h9 => absurd h9 (by decide)) (fun _ => ?_)
  refine lv_aload_n C.1 C.2.1 dX9_put_17 rfl (lv_at hl 1 rfl) ?_
  refine x_get C hw iwX9 8 rfl 0 rfl 1 (by decide) kw89 rfl dX9_put_18 ?_
  refine lv_aload_n C.1 C.2.1 dX9_put_21 rfl (lv_at hl 1 rfl) ?_
  refine x_get C hw iwX9 8 rfl 0 rfl 2 (by decide) kw91 rfl dX9_put_22 ?_
  refine lv_iload_n C.1 C.2.1 dX9_put_25 rfl (lv_at hl 2 rfl) ?_
  refine lv_iload_n C.1 C.2.1 dX9_put_26 rfl (lv_at hl 0 rfl) ?_
  refine lv_iushr (v := ((f9.toUInt32 >>> ((24 : Int32).toUInt32 &&& Int32.toUInt32 31)).toInt32)) C.1 C.2.1 dX9_put_27 rfl ?_
  refine lv_i2b (v := (((f9.toUInt32 >>> ((24 : Int32).toUInt32 &&& Int32.toUInt32 31)).toInt32).toInt8.toInt32)) C.1 C.2.1 dX9_put_28 rfl ?_
  refine x_bast (f' := (upd fb 0 (vp_nar .byte (((f9.toUInt32 >>> ((24 : Int32).toUInt32 &&& Int32.toUInt32 31)).toInt32).toInt8.toInt32)))) (w' := [(qt, .inr (8, [.ref kc, .ref bys, .int 0, .int tmo, .int tfr, .int tki, .int tpl, .int tva, .long tco, .int tke, .int tfa, .int tfp])), (bys, eB G 940 (upd fb 0 (vp_nar .byte (((f9.toUInt32 >>> ((24 : Int32).toUInt32 &&& Int32.toUInt32 31)).toInt32).toInt8.toInt32))))]) C hw 1 rfl (x_in rfl) rfl rfl dX9_put_29 (fun H locs hw => ?_)
  refine lv_aload_n C.1 C.2.1 dX9_put_30 rfl (lv_at hl 1 rfl) ?_
  refine lv_dup C.1 C.2.1 dX9_put_31 rfl ?_
  refine x_get C hw iwX9 8 rfl 0 rfl 2 (by decide) kw91 rfl dX9_put_32 ?_
  refine lv_iconst (v := 1) C.1 C.2.1 dX9_put_35 (by decide) ?_
  refine lv_iadd C.1 C.2.1 dX9_put_36 ?_
  refine x_topi (z := 1) (by decide) ?_
  refine x_put (w' := [(qt, .inr (8, [.ref kc, .ref bys, .int 1, .int tmo, .int tfr, .int tki, .int tpl, .int tva, .long tco, .int tke, .int tfa, .int tfp])), (bys, eB G 940 (upd fb 0 (vp_nar .byte (((f9.toUInt32 >>> ((24 : Int32).toUInt32 &&& Int32.toUInt32 31)).toInt32).toInt8.toInt32))))]) C hw iwX9 tyX9_ok nmX9 8 rfl 0 rfl 2 (by decide) kw91 rfl rfl rfl (Nat.le_of_ble_eq_true rfl) rfl dX9_put_37 (fun H locs hw => ?_)
  refine lv_iinc (v := 16) (lv' := [(2, .int 16), (0, .ref qt), (1, .int f9)]) C.1 C.2.1 dX9_put_40 hl (k := 0) rfl (by decide) (by decide) rfl (fun ls hl => ?_)
  refine lv_goto (tgt := 3) C.1 C.2.1 dX9_put_43 (by decide) ?_
  refine lv_iload_n C.1 C.2.1 dX9_put_3 rfl (lv_at hl 0 rfl) ?_
  refine lv_if_lt (tgt := 46) C.1 C.2.1 dX9_put_4 (by decide) (fun h9 => absurd h9 (by decide)) (fun _ => ?_)
  refine lv_aload_n C.1 C.2.1 dX9_put_7 rfl (lv_at hl 1 rfl) ?_
  refine x_get C hw iwX9 8 rfl 0 rfl 2 (by decide) kw91 rfl dX9_put_8 ?_
  refine lv_sipush (v := 940) C.1 C.2.1 dX9_put_11 (by decide) ?_
  refine lv_icmp_ge (tgt := 40) C.1 C.2.1 dX9_put_14 (by decide) (fun h9 => absurd h9 (by decide)) (fun _ => ?_)
  refine lv_aload_n C.1 C.2.1 dX9_put_17 rfl (lv_at hl 1 rfl) ?_
  refine x_get C hw iwX9 8 rfl 0 rfl 1 (by decide) kw89 rfl dX9_put_18 ?_
  refine lv_aload_n C.1 C.2.1 dX9_put_21 rfl (lv_at hl 1 rfl) ?_
  refine x_get C hw iwX9 8 rfl 0 rfl 2 (by decide) kw91 rfl dX9_put_22 ?_
  refine lv_iload_n C.1 C.2.1 dX9_put_25 rfl (lv_at hl 2 rfl) ?_
  refine lv_iload_n C.1 C.2.1 dX9_put_26 rfl (lv_at hl 0 rfl) ?_
  refine lv_iushr (v := ((f9.toUInt32 >>> ((16 : Int32).toUInt32 &&& Int32.toUInt32 31)).toInt32)) C.1 C.2.1 dX9_put_27 rfl ?_
  refine lv_i2b (v := (((f9.toUInt32 >>> ((16 : Int32).toUInt32 &&& Int32.toUInt32 31)).toInt32).toInt8.toInt32)) C.1 C.2.1 dX9_put_28 rfl ?_
  refine x_bast (f' := (upd (upd fb 0 (vp_nar .byte (((f9.toUInt32 >>> ((24 : Int32).toUInt32 &&& Int32.toUInt32 31)).toInt32).toInt8.toInt32))) 1 (vp_nar .byte (((f9.toUInt32 >>> ((16 : Int32).toUInt32 &&& Int32.toUInt32 31)).toInt32).toInt8.toInt32)))) (w' := [(qt, .inr (8, [.ref kc, .ref bys, .int 1, .int tmo, .int tfr, .int tki, .int tpl, .int tva, .long tco, .int tke, .int tfa, .int tfp])), (bys, eB G 940 (upd (upd fb 0 (vp_nar .byte (((f9.toUInt32 >>> ((24 : Int32).toUInt32 &&& Int32.toUInt32 31)).toInt32).toInt8.toInt32))) 1 (vp_nar .byte (((f9.toUInt32 >>> ((16 : Int32).toUInt32 &&& Int32.toUInt32 31)).toInt32).toInt8.toInt32))))]) C hw 1 rfl (x_in rfl) rfl rfl dX9_put_29 (fun H locs hw => ?_)
  refine lv_aload_n C.1 C.2.1 dX9_put_30 rfl (lv_at hl 1 rfl) ?_
  refine lv_dup C.1 C.2.1 dX9_put_31 rfl ?_
  refine x_get C hw iwX9 8 rfl 0 rfl 2 (by decide) kw91 rfl dX9_put_32 ?_
  refine lv_iconst (v := 1) C.1 C.2.1 dX9_put_35 (by decide) ?_
  refine lv_iadd C.1 C.2.1 dX9_put_36 ?_
  refine x_topi (z := 2) (by decide) ?_
  refine x_put (w' := [(qt, .inr (8, [.ref kc, .ref bys, .int 2, .int tmo, .int tfr, .int tki, .int tpl, .int tva, .long tco, .int tke, .int tfa, .int tfp])), (bys, eB G 940 (upd (upd fb 0 (vp_nar .byte (((f9.toUInt32 >>> ((24 : Int32).toUInt32 &&& Int32.toUInt32 31)).toInt32).toInt8.toInt32))) 1 (vp_nar .byte (((f9.toUInt32 >>> ((16 : Int32).toUInt32 &&& Int32.toUInt32 31)).toInt32).toInt8.toInt32))))]) C hw iwX9 tyX9_ok nmX9 8 rfl 0 rfl 2 (by decide) kw91 rfl rfl rfl (Nat.le_of_ble_eq_true rfl) rfl dX9_put_37 (fun H locs hw => ?_)
  refine lv_iinc (v := 8) (lv' := [(2, .int 8), (0, .ref qt), (1, .int f9)]) C.1 C.2.1 dX9_put_40 hl (k := 0) rfl (by decide) (by decide) rfl (fun ls hl => ?_)
  refine lv_goto (tgt := 3) C.1 C.2.1 dX9_put_43 (by decide) ?_
  refine lv_iload_n C.1 C.2.1 dX9_put_3 rfl (lv_at hl 0 rfl) ?_
  refine lv_if_lt (tgt := 46) C.1 C.2.1 dX9_put_4 (by decide) (fun h9 => absurd h9 (by decide)) (fun _ => ?_)
  refine lv_aload_n C.1 C.2.1 dX9_put_7 rfl (lv_at hl 1 rfl) ?_
  refine x_get C hw iwX9 8 rfl 0 rfl 2 (by decide) kw91 rfl dX9_put_8 ?_
  refine lv_sipush (v := 940) C.1 C.2.1 dX9_put_11 (by decide) ?_
  refine lv_icmp_ge (tgt := 40) C.1 C.2.1 dX9_put_14 (by decide) (fun h9 => absurd h9 (by decide)) (fun _ => ?_)
  refine lv_aload_n C.1 C.2.1 dX9_put_17 rfl (lv_at hl 1 rfl) ?_
  refine x_get C hw iwX9 8 rfl 0 rfl 1 (by decide) kw89 rfl dX9_put_18 ?_
  refine lv_aload_n C.1 C.2.1 dX9_put_21 rfl (lv_at hl 1 rfl) ?_
  refine x_get C hw iwX9 8 rfl 0 rfl 2 (by decide) kw91 rfl dX9_put_22 ?_
  refine lv_iload_n C.1 C.2.1 dX9_put_25 rfl (lv_at hl 2 rfl) ?_
  refine lv_iload_n C.1 C.2.1 dX9_put_26 rfl (lv_at hl 0 rfl) ?_
  refine lv_iushr (v := ((f9.toUInt32 >>> ((8 : Int32).toUInt32 &&& Int32.toUInt32 31)).toInt32)) C.1 C.2.1 dX9_put_27 rfl ?_
  refine lv_i2b (v := (((f9.toUInt32 >>> ((8 : Int32).toUInt32 &&& Int32.toUInt32 31)).toInt32).toInt8.toInt32)) C.1 C.2.1 dX9_put_28 rfl ?_
  refine x_bast (f' := (upd (upd (upd fb 0 (vp_nar .byte (((f9.toUInt32 >>> ((24 : Int32).toUInt32 &&& Int32.toUInt32 31)).toInt32).toInt8.toInt32))) 1 (vp_nar .byte (((f9.toUInt32 >>> ((16 : Int32).toUInt32 &&& Int32.toUInt32 31)).toInt32).toInt8.toInt32))) 2 (vp_nar .byte (((f9.toUInt32 >>> ((8 : Int32).toUInt32 &&& Int32.toUInt32 31)).toInt32).toInt8.toInt32)))) (w' := [(qt, .inr (8, [.ref kc, .ref bys, .int 2, .int tmo, .int tfr, .int tki, .int tpl, .int tva, .long tco, .int tke, .int tfa, .int tfp])), (bys, eB G 940 (upd (upd (upd fb 0 (vp_nar .byte (((f9.toUInt32 >>> ((24 : Int32).toUInt32 &&& Int32.toUInt32 31)).toInt32).toInt8.toInt32))) 1 (vp_nar .byte (((f9.toUInt32 >>> ((16 : Int32).toUInt32 &&& Int32.toUInt32 31)).toInt32).toInt8.toInt32))) 2 (vp_nar .byte (((f9.toUInt32 >>> ((8 : Int32).toUInt32 &&& Int32.toUInt32 31)).toInt32).toInt8.toInt32))))]) C hw 1 rfl (x_in rfl) rfl rfl dX9_put_29 (fun H locs hw => ?_)
  refine lv_aload_n C.1 C.2.1 dX9_put_30 rfl (lv_at hl 1 rfl) ?_
  refine lv_dup C.1 C.2.1 dX9_put_31 rfl ?_
  refine x_get C hw iwX9 8 rfl 0 rfl 2 (by decide) kw91 rfl dX9_put_32 ?_
  refine lv_iconst (v := 1) C.1 C.2.1 dX9_put_35 (by decide) ?_
  refine lv_iadd C.1 C.2.1 dX9_put_36 ?_
  refine x_topi (z := 3) (by decide) ?_
  refine x_put (w' := [(qt, .inr (8, [.ref kc, .ref bys, .int 3, .int tmo, .int tfr, .int tki, .int tpl, .int tva, .long tco, .int tke, .int tfa, .int tfp])), (bys, eB G 940 (upd (upd (upd fb 0 (vp_nar .byte (((f9.toUInt32 >>> ((24 : Int32).toUInt32 &&& Int32.toUInt32 31)).toInt32).toInt8.toInt32))) 1 (vp_nar .byte (((f9.toUInt32 >>> ((16 : Int32).toUInt32 &&& Int32.toUInt32 31)).toInt32).toInt8.toInt32))) 2 (vp_nar .byte (((f9.toUInt32 >>> ((8 : Int32).toUInt32 &&& Int32.toUInt32 31)).toInt32).toInt8.toInt32))))]) C hw iwX9 tyX9_ok nmX9 8 rfl 0 rfl 2 (by decide) kw91 rfl rfl rfl (Nat.le_of_ble_eq_true rfl) rfl dX9_put_37 (fun H locs hw => ?_)
  refine lv_iinc (v := 0) (lv' := [(2, .int 0), (0, .ref qt), (1, .int f9)]) C.1 C.2.1 dX9_put_40 hl (k := 0) rfl (by decide) (by decide) rfl (fun ls hl => ?_)
  refine lv_goto (tgt := 3) C.1 C.2.1 dX9_put_43 (by decide) ?_
  refine lv_iload_n C.1 C.2.1 dX9_put_3 rfl (lv_at hl 0 rfl) ?_
  refine lv_if_lt (tgt := 46) C.1 C.2.1 dX9_put_4 (by decide) (fun h9 => absurd h9 (by decide)) (fun _ => ?_)
  refine lv_aload_n C.1 C.2.1 dX9_put_7 rfl (lv_at hl 1 rfl) ?_
  refine x_get C hw iwX9 8 rfl 0 rfl 2 (by decide) kw91 rfl dX9_put_8 ?_
  refine lv_sipush (v := 940) C.1 C.2.1 dX9_put_11 (by decide) ?_
  refine lv_icmp_ge (tgt := 40) C.1 C.2.1 dX9_put_14 (by decide) (fun h9 => absurd h9 (by decide)) (fun _ => ?_)
  refine lv_aload_n C.1 C.2.1 dX9_put_17 rfl (lv_at hl 1 rfl) ?_
  refine x_get C hw iwX9 8 rfl 0 rfl 1 (by decide) kw89 rfl dX9_put_18 ?_
  refine lv_aload_n C.1 C.2.1 dX9_put_21 rfl (lv_at hl 1 rfl) ?_
  refine x_get C hw iwX9 8 rfl 0 rfl 2 (by decide) kw91 rfl dX9_put_22 ?_
  refine lv_iload_n C.1 C.2.1 dX9_put_25 rfl (lv_at hl 2 rfl) ?_
  refine lv_iload_n C.1 C.2.1 dX9_put_26 rfl (lv_at hl 0 rfl) ?_
  refine lv_iushr (v := ((f9.toUInt32 >>> ((0 : Int32).toUInt32 &&& Int32.toUInt32 31)).toInt32)) C.1 C.2.1 dX9_put_27 rfl ?_
  refine lv_i2b (v := (((f9.toUInt32 >>> ((0 : Int32).toUInt32 &&& Int32.toUInt32 31)).toInt32).toInt8.toInt32)) C.1 C.2.1 dX9_put_28 rfl ?_
  refine x_bast (f' := (upd (upd (upd (upd fb 0 (vp_nar .byte (((f9.toUInt32 >>> ((24 : Int32).toUInt32 &&& Int32.toUInt32 31)).toInt32).toInt8.toInt32))) 1 (vp_nar .byte (((f9.toUInt32 >>> ((16 : Int32).toUInt32 &&& Int32.toUInt32 31)).toInt32).toInt8.toInt32))) 2 (vp_nar .byte (((f9.toUInt32 >>> ((8 : Int32).toUInt32 &&& Int32.toUInt32 31)).toInt32).toInt8.toInt32))) 3 (vp_nar .byte (((f9.toUInt32 >>> ((0 : Int32).toUInt32 &&& Int32.toUInt32 31)).toInt32).toInt8.toInt32)))) (w' := [(qt, .inr (8, [.ref kc, .ref bys, .int 3, .int tmo, .int tfr, .int tki, .int tpl, .int tva, .long tco, .int tke, .int tfa, .int tfp])), (bys, eB G 940 (upd (upd (upd (upd fb 0 (vp_nar .byte (((f9.toUInt32 >>> ((24 : Int32).toUInt32 &&& Int32.toUInt32 31)).toInt32).toInt8.toInt32))) 1 (vp_nar .byte (((f9.toUInt32 >>> ((16 : Int32).toUInt32 &&& Int32.toUInt32 31)).toInt32).toInt8.toInt32))) 2 (vp_nar .byte (((f9.toUInt32 >>> ((8 : Int32).toUInt32 &&& Int32.toUInt32 31)).toInt32).toInt8.toInt32))) 3 (vp_nar .byte (((f9.toUInt32 >>> ((0 : Int32).toUInt32 &&& Int32.toUInt32 31)).toInt32).toInt8.toInt32))))]) C hw 1 rfl (x_in rfl) rfl rfl dX9_put_29 (fun H locs hw => ?_)
  refine lv_aload_n C.1 C.2.1 dX9_put_30 rfl (lv_at hl 1 rfl) ?_
  refine lv_dup C.1 C.2.1 dX9_put_31 rfl ?_
  refine x_get C hw iwX9 8 rfl 0 rfl 2 (by decide) kw91 rfl dX9_put_32 ?_
  refine lv_iconst (v := 1) C.1 C.2.1 dX9_put_35 (by decide) ?_
  refine lv_iadd C.1 C.2.1 dX9_put_36 ?_
  refine x_topi (z := 4) (by decide) ?_
  refine x_put (w' := [(qt, .inr (8, [.ref kc, .ref bys, .int 4, .int tmo, .int tfr, .int tki, .int tpl, .int tva, .long tco, .int tke, .int tfa, .int tfp])), (bys, eB G 940 (upd (upd (upd (upd fb 0 (vp_nar .byte (((f9.toUInt32 >>> ((24 : Int32).toUInt32 &&& Int32.toUInt32 31)).toInt32).toInt8.toInt32))) 1 (vp_nar .byte (((f9.toUInt32 >>> ((16 : Int32).toUInt32 &&& Int32.toUInt32 31)).toInt32).toInt8.toInt32))) 2 (vp_nar .byte (((f9.toUInt32 >>> ((8 : Int32).toUInt32 &&& Int32.toUInt32 31)).toInt32).toInt8.toInt32))) 3 (vp_nar .byte (((f9.toUInt32 >>> ((0 : Int32).toUInt32 &&& Int32.toUInt32 31)).toInt32).toInt8.toInt32))))]) C hw iwX9 tyX9_ok nmX9 8 rfl 0 rfl 2 (by decide) kw91 rfl rfl rfl (Nat.le_of_ble_eq_true rfl) rfl dX9_put_37 (fun H locs hw => ?_)
  refine lv_iinc (v := (-8)) (lv' := [(2, .int (-8)), (0, .ref qt), (1, .int f9)]) C.1 C.2.1 dX9_put_40 hl (k := 0) rfl (by decide) (by decide) rfl (fun ls hl => ?_)
  refine lv_goto (tgt := 3) C.1 C.2.1 dX9_put_43 (by decide) ?_
  refine lv_iload_n C.1 C.2.1 dX9_put_3 rfl (lv_at hl 0 rfl) ?_
  refine lv_if_lt (tgt := 46) C.1 C.2.1 dX9_put_4 (by decide) (fun _ => ?_) (fun h9 => absurd (by decide) h9)
  exact x_retv B hw ⟨(upd (upd (upd (upd fb 0 (vp_nar .byte (((f9.toUInt32 >>> ((24 : Int32).toUInt32 &&& Int32.toUInt32 31)).toInt32).toInt8.toInt32))) 1 (vp_nar .byte (((f9.toUInt32 >>> ((16 : Int32).toUInt32 &&& Int32.toUInt32 31)).toInt32).toInt8.toInt32))) 2 (vp_nar .byte (((f9.toUInt32 >>> ((8 : Int32).toUInt32 &&& Int32.toUInt32 31)).toInt32).toInt8.toInt32))) 3 (vp_nar .byte (((f9.toUInt32 >>> ((0 : Int32).toUInt32 &&& Int32.toUInt32 31)).toInt32).toInt8.toInt32))), rfl⟩ (Nat.le_of_ble_eq_true rfl) (Nat.le_of_ble_eq_true rfl) dX9_put_46
-- Tape.put at 4
set_option maxHeartbeats 4000000 in
set_option maxRecDepth 100000 in
theorem c_X9_put4 {l : Launch} {G : Gc} (qt : Nat) (f9 : Int32) (kc : Nat) (bys : Nat) (tmo : Int32) (tfr : Int32) (tki : Int32) (tpl : Int32) (tva : Int32) (tco : Int64) (tke : Int32) (tfa : Int32) (tfp : Int32) (fb : Nat → Int32)  : Cv l yX9_put cX9_put 3 0 0 0 G [.ref qt, .int f9] [(qt, .inr (8, [.ref kc, .ref bys, .int 4, .int tmo, .int tfr, .int tki, .int tpl, .int tva, .long tco, .int tke, .int tfa, .int tfp])), (bys, eB G 940 fb)] (fun (u9 : va_W) => ∃ (gb : Nat → Int32), u9 = [(qt, .inr (8, [.ref kc, .ref bys, .int 8, .int tmo, .int tfr, .int tki, .int tpl, .int tva, .long tco, .int tke, .int tfa, .int tfp])), (bys, eB G 940 gb)]) := by
  refine Cv.of (by decide) (Nat.le_of_ble_eq_true rfl) ?_
  intro p e s m below meth c ls A B hw hl
  have C : CallFix p m c cX9_put 3 s _ gw "LanternState$Tape" := B.1
  have hl : lv_has ls 3 [(0, .ref qt), (1, .int f9)] := hl
  refine lv_bipush (v := 24) C.1 C.2.1 dX9_put_0 (by decide) ?_
  refine lv_istore_n (lv' := [(2, .int 24), (0, .ref qt), (1, .int f9)]) C.1 C.2.1 dX9_put_2 rfl hl (by decide) rfl (fun ls hl => ?_)
  refine lv_iload_n C.1 C.2.1 dX9_put_3 rfl (lv_at hl 0 rfl) ?_
  refine lv_if_lt (tgt := 46) C.1 C.2.1 dX9_put_4 (by decide) (fun h9 => absurd h9 (by decide)) (fun _ => ?_)
  refine lv_aload_n C.1 C.2.1 dX9_put_7 rfl (lv_at hl 1 rfl) ?_
  refine x_get C hw iwX9 8 rfl 0 rfl 2 (by decide) kw91 rfl dX9_put_8 ?_
  refine lv_sipush (v := 940) C.1 C.2.1 dX9_put_11 (by decide) ?_
  refine lv_icmp_ge (tgt := 40) C.1 C.2.1 dX9_put_14 (by decide) (fun h9 => absurd h9 (by decide)) (fun _ => ?_)
  refine lv_aload_n C.1 C.2.1 dX9_put_17 rfl (lv_at hl 1 rfl) ?_
  refine x_get C hw iwX9 8 rfl 0 rfl 1 (by decide) kw89 rfl dX9_put_18 ?_
  refine lv_aload_n C.1 C.2.1 dX9_put_21 rfl (lv_at hl 1 rfl) ?_
  refine x_get C hw iwX9 8 rfl 0 rfl 2 (by decide) kw91 rfl dX9_put_22 ?_
  refine lv_iload_n C.1 C.2.1 dX9_put_25 rfl (lv_at hl 2 rfl) ?_
  refine lv_iload_n C.1 C.2.1 dX9_put_26 rfl (lv_at hl 0 rfl) ?_
  refine lv_iushr (v := ((f9.toUInt32 >>> ((24 : Int32).toUInt32 &&& Int32.toUInt32 31)).toInt32)) C.1 C.2.1 dX9_put_27 rfl ?_
  refine lv_i2b (v := (((f9.toUInt32 >>> ((24 : Int32).toUInt32 &&& Int32.toUInt32 31)).toInt32).toInt8.toInt32)) C.1 C.2.1 dX9_put_28 rfl ?_
  refine x_bast (f' := (upd fb 4 (vp_nar .byte (((f9.toUInt32 >>> ((24 : Int32).toUInt32 &&& Int32.toUInt32 31)).toInt32).toInt8.toInt32)))) (w' := [(qt, .inr (8, [.ref kc, .ref bys, .int 4, .int tmo, .int tfr, .int tki, .int tpl, .int tva, .long tco, .int tke, .int tfa, .int tfp])), (bys, eB G 940 (upd fb 4 (vp_nar .byte (((f9.toUInt32 >>> ((24 : Int32).toUInt32 &&& Int32.toUInt32 31)).toInt32).toInt8.toInt32))))]) C hw 1 rfl (x_in rfl) rfl rfl dX9_put_29 (fun H locs hw => ?_)
  refine lv_aload_n C.1 C.2.1 dX9_put_30 rfl (lv_at hl 1 rfl) ?_
  refine lv_dup C.1 C.2.1 dX9_put_31 rfl ?_
  refine x_get C hw iwX9 8 rfl 0 rfl 2 (by decide) kw91 rfl dX9_put_32 ?_
  refine lv_iconst (v := 1) C.1 C.2.1 dX9_put_35 (by decide) ?_
  refine lv_iadd C.1 C.2.1 dX9_put_36 ?_
  refine x_topi (z := 5) (by decide) ?_
  refine x_put (w' := [(qt, .inr (8, [.ref kc, .ref bys, .int 5, .int tmo, .int tfr, .int tki, .int tpl, .int tva, .long tco, .int tke, .int tfa, .int tfp])), (bys, eB G 940 (upd fb 4 (vp_nar .byte (((f9.toUInt32 >>> ((24 : Int32).toUInt32 &&& Int32.toUInt32 31)).toInt32).toInt8.toInt32))))]) C hw iwX9 tyX9_ok nmX9 8 rfl 0 rfl 2 (by decide) kw91 rfl rfl rfl (Nat.le_of_ble_eq_true rfl) rfl dX9_put_37 (fun H locs hw => ?_)
  refine lv_iinc (v := 16) (lv' := [(2, .int 16), (0, .ref qt), (1, .int f9)]) C.1 C.2.1 dX9_put_40 hl (k := 0) rfl (by decide) (by decide) rfl (fun ls hl => ?_)
  refine lv_goto (tgt := 3) C.1 C.2.1 dX9_put_43 (by decide) ?_
  refine lv_iload_n C.1 C.2.1 dX9_put_3 rfl (lv_at hl 0 rfl) ?_
  refine lv_if_lt (tgt := 46) C.1 C.2.1 dX9_put_4 (by decide) (fun h9 => absurd h9 (by decide)) (fun _ => ?_)
  refine lv_aload_n C.1 C.2.1 dX9_put_7 rfl (lv_at hl 1 rfl) ?_
  refine x_get C hw iwX9 8 rfl 0 rfl 2 (by decide) kw91 rfl dX9_put_8 ?_
  refine lv_sipush (v := 940) C.1 C.2.1 dX9_put_11 (by decide) ?_
  refine lv_icmp_ge (tgt := 40) C.1 C.2.1 dX9_put_14 (by decide) (fun h9 => absurd h9 (by decide)) (fun _ => ?_)
  refine lv_aload_n C.1 C.2.1 dX9_put_17 rfl (lv_at hl 1 rfl) ?_
  refine x_get C hw iwX9 8 rfl 0 rfl 1 (by decide) kw89 rfl dX9_put_18 ?_
  refine lv_aload_n C.1 C.2.1 dX9_put_21 rfl (lv_at hl 1 rfl) ?_
  refine x_get C hw iwX9 8 rfl 0 rfl 2 (by decide) kw91 rfl dX9_put_22 ?_
  refine lv_iload_n C.1 C.2.1 dX9_put_25 rfl (lv_at hl 2 rfl) ?_
  refine lv_iload_n C.1 C.2.1 dX9_put_26 rfl (lv_at hl 0 rfl) ?_
  refine lv_iushr (v := ((f9.toUInt32 >>> ((16 : Int32).toUInt32 &&& Int32.toUInt32 31)).toInt32)) C.1 C.2.1 dX9_put_27 rfl ?_
  refine lv_i2b (v := (((f9.toUInt32 >>> ((16 : Int32).toUInt32 &&& Int32.toUInt32 31)).toInt32).toInt8.toInt32)) C.1 C.2.1 dX9_put_28 rfl ?_
  refine x_bast (f' := (upd (upd fb 4 (vp_nar .byte (((f9.toUInt32 >>> ((24 : Int32).toUInt32 &&& Int32.toUInt32 31)).toInt32).toInt8.toInt32))) 5 (vp_nar .byte (((f9.toUInt32 >>> ((16 : Int32).toUInt32 &&& Int32.toUInt32 31)).toInt32).toInt8.toInt32)))) (w' := [(qt, .inr (8, [.ref kc, .ref bys, .int 5, .int tmo, .int tfr, .int tki, .int tpl, .int tva, .long tco, .int tke, .int tfa, .int tfp])), (bys, eB G 940 (upd (upd fb 4 (vp_nar .byte (((f9.toUInt32 >>> ((24 : Int32).toUInt32 &&& Int32.toUInt32 31)).toInt32).toInt8.toInt32))) 5 (vp_nar .byte (((f9.toUInt32 >>> ((16 : Int32).toUInt32 &&& Int32.toUInt32 31)).toInt32).toInt8.toInt32))))]) C hw 1 rfl (x_in rfl) rfl rfl dX9_put_29 (fun H locs hw => ?_)
  refine lv_aload_n C.1 C.2.1 dX9_put_30 rfl (lv_at hl 1 rfl) ?_
  refine lv_dup C.1 C.2.1 dX9_put_31 rfl ?_
  refine x_get C hw iwX9 8 rfl 0 rfl 2 (by decide) kw91 rfl dX9_put_32 ?_
  refine lv_iconst (v := 1) C.1 C.2.1 dX9_put_35 (by decide) ?_
  refine lv_iadd C.1 C.2.1 dX9_put_36 ?_
  refine x_topi (z := 6) (by decide) ?_
  refine x_put (w' := [(qt, .inr (8, [.ref kc, .ref bys, .int 6, .int tmo, .int tfr, .int tki, .int tpl, .int tva, .long tco, .int tke, .int tfa, .int tfp])), (bys, eB G 940 (upd (upd fb 4 (vp_nar .byte (((f9.toUInt32 >>> ((24 : Int32).toUInt32 &&& Int32.toUInt32 31)).toInt32).toInt8.toInt32))) 5 (vp_nar .byte (((f9.toUInt32 >>> ((16 : Int32).toUInt32 &&& Int32.toUInt32 31)).toInt32).toInt8.toInt32))))]) C hw iwX9 tyX9_ok nmX9 8 rfl 0 rfl 2 (by decide) kw91 rfl rfl rfl (Nat.le_of_ble_eq_true rfl) rfl dX9_put_37 (fun H locs hw => ?_)
  refine lv_iinc (v := 8) (lv' := [(2, .int 8), (0, .ref qt), (1, .int f9)]) C.1 C.2.1 dX9_put_40 hl (k := 0) rfl (by decide) (by decide) rfl (fun ls hl => ?_)
  refine lv_goto (tgt := 3) C.1 C.2.1 dX9_put_43 (by decide) ?_
  refine lv_iload_n C.1 C.2.1 dX9_put_3 rfl (lv_at hl 0 rfl) ?_
  refine lv_if_lt (tgt := 46) C.1 C.2.1 dX9_put_4 (by decide) (fun h9 => absurd h9 (by decide)) (fun _ => ?_)
  refine lv_aload_n C.1 C.2.1 dX9_put_7 rfl (lv_at hl 1 rfl) ?_
  refine x_get C hw iwX9 8 rfl 0 rfl 2 (by decide) kw91 rfl dX9_put_8 ?_
  refine lv_sipush (v := 940) C.1 C.2.1 dX9_put_11 (by decide) ?_
  refine lv_icmp_ge (tgt := 40) C.1 C.2.1 dX9_put_14 (by decide) (fun h9 => absurd h9 (by decide)) (fun _ => ?_)
  refine lv_aload_n C.1 C.2.1 dX9_put_17 rfl (lv_at hl 1 rfl) ?_
  refine x_get C hw iwX9 8 rfl 0 rfl 1 (by decide) kw89 rfl dX9_put_18 ?_
  refine lv_aload_n C.1 C.2.1 dX9_put_21 rfl (lv_at hl 1 rfl) ?_
  refine x_get C hw iwX9 8 rfl 0 rfl 2 (by decide) kw91 rfl dX9_put_22 ?_
  refine lv_iload_n C.1 C.2.1 dX9_put_25 rfl (lv_at hl 2 rfl) ?_
  refine lv_iload_n C.1 C.2.1 dX9_put_26 rfl (lv_at hl 0 rfl) ?_
  refine lv_iushr (v := ((f9.toUInt32 >>> ((8 : Int32).toUInt32 &&& Int32.toUInt32 31)).toInt32)) C.1 C.2.1 dX9_put_27 rfl ?_
  refine lv_i2b (v := (((f9.toUInt32 >>> ((8 : Int32).toUInt32 &&& Int32.toUInt32 31)).toInt32).toInt8.toInt32)) C.1 C.2.1 dX9_put_28 rfl ?_
  refine x_bast (f' := (upd (upd (upd fb 4 (vp_nar .byte (((f9.toUInt32 >>> ((24 : Int32).toUInt32 &&& Int32.toUInt32 31)).toInt32).toInt8.toInt32))) 5 (vp_nar .byte (((f9.toUInt32 >>> ((16 : Int32).toUInt32 &&& Int32.toUInt32 31)).toInt32).toInt8.toInt32))) 6 (vp_nar .byte (((f9.toUInt32 >>> ((8 : Int32).toUInt32 &&& Int32.toUInt32 31)).toInt32).toInt8.toInt32)))) (w' := [(qt, .inr (8, [.ref kc, .ref bys, .int 6, .int tmo, .int tfr, .int tki, .int tpl, .int tva, .long tco, .int tke, .int tfa, .int tfp])), (bys, eB G 940 (upd (upd (upd fb 4 (vp_nar .byte (((f9.toUInt32 >>> ((24 : Int32).toUInt32 &&& Int32.toUInt32 31)).toInt32).toInt8.toInt32))) 5 (vp_nar .byte (((f9.toUInt32 >>> ((16 : Int32).toUInt32 &&& Int32.toUInt32 31)).toInt32).toInt8.toInt32))) 6 (vp_nar .byte (((f9.toUInt32 >>> ((8 : Int32).toUInt32 &&& Int32.toUInt32 31)).toInt32).toInt8.toInt32))))]) C hw 1 rfl (x_in rfl) rfl rfl dX9_put_29 (fun H locs hw => ?_)
  refine lv_aload_n C.1 C.2.1 dX9_put_30 rfl (lv_at hl 1 rfl) ?_
  refine lv_dup C.1 C.2.1 dX9_put_31 rfl ?_
  refine x_get C hw iwX9 8 rfl 0 rfl 2 (by decide) kw91 rfl dX9_put_32 ?_
  refine lv_iconst (v := 1) C.1 C.2.1 dX9_put_35 (by decide) ?_
  refine lv_iadd C.1 C.2.1 dX9_put_36 ?_
  refine x_topi (z := 7) (by decide) ?_
  refine x_put (w' := [(qt, .inr (8, [.ref kc, .ref bys, .int 7, .int tmo, .int tfr, .int tki, .int tpl, .int tva, .long tco, .int tke, .int tfa, .int tfp])), (bys, eB G 940 (upd (upd (upd fb 4 (vp_nar .byte (((f9.toUInt32 >>> ((24 : Int32).toUInt32 &&& Int32.toUInt32 31)).toInt32).toInt8.toInt32))) 5 (vp_nar .byte (((f9.toUInt32 >>> ((16 : Int32).toUInt32 &&& Int32.toUInt32 31)).toInt32).toInt8.toInt32))) 6 (vp_nar .byte (((f9.toUInt32 >>> ((8 : Int32).toUInt32 &&& Int32.toUInt32 31)).toInt32).toInt8.toInt32))))]) C hw iwX9 tyX9_ok nmX9 8 rfl 0 rfl 2 (by decide) kw91 rfl rfl rfl (Nat.le_of_ble_eq_true rfl) rfl dX9_put_37 (fun H locs hw => ?_)
  refine lv_iinc (v := 0) (lv' := [(2, .int 0), (0, .ref qt), (1, .int f9)]) C.1 C.2.1 dX9_put_40 hl (k := 0) rfl (by decide) (by decide) rfl (fun ls hl => ?_)
  refine lv_goto (tgt := 3) C.1 C.2.1 dX9_put_43 (by decide) ?_
  refine lv_iload_n C.1 C.2.1 dX9_put_3 rfl (lv_at hl 0 rfl) ?_
  refine lv_if_lt (tgt := 46) C.1 C.2.1 dX9_put_4 (by decide) (fun h9 => absurd h9 (by decide)) (fun _ => ?_)
  refine lv_aload_n C.1 C.2.1 dX9_put_7 rfl (lv_at hl 1 rfl) ?_
  refine x_get C hw iwX9 8 rfl 0 rfl 2 (by decide) kw91 rfl dX9_put_8 ?_
  refine lv_sipush (v := 940) C.1 C.2.1 dX9_put_11 (by decide) ?_
  refine lv_icmp_ge (tgt := 40) C.1 C.2.1 dX9_put_14 (by decide) (fun h9 => absurd h9 (by decide)) (fun _ => ?_)
  refine lv_aload_n C.1 C.2.1 dX9_put_17 rfl (lv_at hl 1 rfl) ?_
  refine x_get C hw iwX9 8 rfl 0 rfl 1 (by decide) kw89 rfl dX9_put_18 ?_
  refine lv_aload_n C.1 C.2.1 dX9_put_21 rfl (lv_at hl 1 rfl) ?_
  refine x_get C hw iwX9 8 rfl 0 rfl 2 (by decide) kw91 rfl dX9_put_22 ?_
  refine lv_iload_n C.1 C.2.1 dX9_put_25 rfl (lv_at hl 2 rfl) ?_
  refine lv_iload_n C.1 C.2.1 dX9_put_26 rfl (lv_at hl 0 rfl) ?_
  refine lv_iushr (v := ((f9.toUInt32 >>> ((0 : Int32).toUInt32 &&& Int32.toUInt32 31)).toInt32)) C.1 C.2.1 dX9_put_27 rfl ?_
  refine lv_i2b (v := (((f9.toUInt32 >>> ((0 : Int32).toUInt32 &&& Int32.toUInt32 31)).toInt32).toInt8.toInt32)) C.1 C.2.1 dX9_put_28 rfl ?_
  refine x_bast (f' := (upd (upd (upd (upd fb 4 (vp_nar .byte (((f9.toUInt32 >>> ((24 : Int32).toUInt32 &&& Int32.toUInt32 31)).toInt32).toInt8.toInt32))) 5 (vp_nar .byte (((f9.toUInt32 >>> ((16 : Int32).toUInt32 &&& Int32.toUInt32 31)).toInt32).toInt8.toInt32))) 6 (vp_nar .byte (((f9.toUInt32 >>> ((8 : Int32).toUInt32 &&& Int32.toUInt32 31)).toInt32).toInt8.toInt32))) 7 (vp_nar .byte (((f9.toUInt32 >>> ((0 : Int32).toUInt32 &&& Int32.toUInt32 31)).toInt32).toInt8.toInt32)))) (w' := [(qt, .inr (8, [.ref kc, .ref bys, .int 7, .int tmo, .int tfr, .int tki, .int tpl, .int tva, .long tco, .int tke, .int tfa, .int tfp])), (bys, eB G 940 (upd (upd (upd (upd fb 4 (vp_nar .byte (((f9.toUInt32 >>> ((24 : Int32).toUInt32 &&& Int32.toUInt32 31)).toInt32).toInt8.toInt32))) 5 (vp_nar .byte (((f9.toUInt32 >>> ((16 : Int32).toUInt32 &&& Int32.toUInt32 31)).toInt32).toInt8.toInt32))) 6 (vp_nar .byte (((f9.toUInt32 >>> ((8 : Int32).toUInt32 &&& Int32.toUInt32 31)).toInt32).toInt8.toInt32))) 7 (vp_nar .byte (((f9.toUInt32 >>> ((0 : Int32).toUInt32 &&& Int32.toUInt32 31)).toInt32).toInt8.toInt32))))]) C hw 1 rfl (x_in rfl) rfl rfl dX9_put_29 (fun H locs hw => ?_)
  refine lv_aload_n C.1 C.2.1 dX9_put_30 rfl (lv_at hl 1 rfl) ?_
  refine lv_dup C.1 C.2.1 dX9_put_31 rfl ?_
  refine x_get C hw iwX9 8 rfl 0 rfl 2 (by decide) kw91 rfl dX9_put_32 ?_
  refine lv_iconst (v := 1) C.1 C.2.1 dX9_put_35 (by decide) ?_
  refine lv_iadd C.1 C.2.1 dX9_put_36 ?_
  refine x_topi (z := 8) (by decide) ?_
  refine x_put (w' := [(qt, .inr (8, [.ref kc, .ref bys, .int 8, .int tmo, .int tfr, .int tki, .int tpl, .int tva, .long tco, .int tke, .int tfa, .int tfp])), (bys, eB G 940 (upd (upd (upd (upd fb 4 (vp_nar .byte (((f9.toUInt32 >>> ((24 : Int32).toUInt32 &&& Int32.toUInt32 31)).toInt32).toInt8.toInt32))) 5 (vp_nar .byte (((f9.toUInt32 >>> ((16 : Int32).toUInt32 &&& Int32.toUInt32 31)).toInt32).toInt8.toInt32))) 6 (vp_nar .byte (((f9.toUInt32 >>> ((8 : Int32).toUInt32 &&& Int32.toUInt32 31)).toInt32).toInt8.toInt32))) 7 (vp_nar .byte (((f9.toUInt32 >>> ((0 : Int32).toUInt32 &&& Int32.toUInt32 31)).toInt32).toInt8.toInt32))))]) C hw iwX9 tyX9_ok nmX9 8 rfl 0 rfl 2 (by decide) kw91 rfl rfl rfl (Nat.le_of_ble_eq_true rfl) rfl dX9_put_37 (fun H locs hw => ?_)
  refine lv_iinc (v := (-8)) (lv' := [(2, .int (-8)), (0, .ref qt), (1, .int f9)]) C.1 C.2.1 dX9_put_40 hl (k := 0) rfl (by decide) (by decide) rfl (fun ls hl => ?_)
  refine lv_goto (tgt := 3) C.1 C.2.1 dX9_put_43 (by decide) ?_
  refine lv_iload_n C.1 C.2.1 dX9_put_3 rfl (lv_at hl 0 rfl) ?_
  refine lv_if_lt (tgt := 46) C.1 C.2.1 dX9_put_4 (by decide) (fun _ => ?_) (fun h9 => absurd (by decide) h9)
  exact x_retv B hw ⟨(upd (upd (upd (upd fb 4 (vp_nar .byte (((f9.toUInt32 >>> ((24 : Int32).toUInt32 &&& Int32.toUInt32 31)).toInt32).toInt8.toInt32))) 5 (vp_nar .byte (((f9.toUInt32 >>> ((16 : Int32).toUInt32 &&& Int32.toUInt32 31)).toInt32).toInt8.toInt32))) 6 (vp_nar .byte (((f9.toUInt32 >>> ((8 : Int32).toUInt32 &&& Int32.toUInt32 31)).toInt32).toInt8.toInt32))) 7 (vp_nar .byte (((f9.toUInt32 >>> ((0 : Int32).toUInt32 &&& Int32.toUInt32 31)).toInt32).toInt8.toInt32))), rfl⟩ (Nat.le_of_ble_eq_true rfl) (Nat.le_of_ble_eq_true rfl) dX9_put_46
-- Tape.put at 8
set_option maxHeartbeats 4000000 in
set_option maxRecDepth 100000 in
theorem c_X9_put8 {l : Launch} {G : Gc} (qt : Nat) (f9 : Int32) (kc : Nat) (bys : Nat) (tmo : Int32) (tfr : Int32) (tki : Int32) (tpl : Int32) (tva : Int32) (tco : Int64) (tke : Int32) (tfa : Int32) (tfp : Int32) (fb : Nat → Int32)  : Cv l yX9_put cX9_put 3 0 0 0 G [.ref qt, .int f9] [(qt, .inr (8, [.ref kc, .ref bys, .int 8, .int tmo, .int tfr, .int tki, .int tpl, .int tva, .long tco, .int tke, .int tfa, .int tfp])), (bys, eB G 940 fb)] (fun (u9 : va_W) => ∃ (gb : Nat → Int32), u9 = [(qt, .inr (8, [.ref kc, .ref bys, .int 12, .int tmo, .int tfr, .int tki, .int tpl, .int tva, .long tco, .int tke, .int tfa, .int tfp])), (bys, eB G 940 gb)]) := by
  refine Cv.of (by decide) (Nat.le_of_ble_eq_true rfl) ?_
  intro p e s m below meth c ls A B hw hl
  have C : CallFix p m c cX9_put 3 s _ gw "LanternState$Tape" := B.1
  have hl : lv_has ls 3 [(0, .ref qt), (1, .int f9)] := hl
  refine lv_bipush (v := 24) C.1 C.2.1 dX9_put_0 (by decide) ?_
  refine lv_istore_n (lv' := [(2, .int 24), (0, .ref qt), (1, .int f9)]) C.1 C.2.1 dX9_put_2 rfl hl (by decide) rfl (fun ls hl => ?_)
  refine lv_iload_n C.1 C.2.1 dX9_put_3 rfl (lv_at hl 0 rfl) ?_
  refine lv_if_lt (tgt := 46) C.1 C.2.1 dX9_put_4 (by decide) (fun h9 => absurd h9 (by decide)) (fun _ => ?_)
  refine lv_aload_n C.1 C.2.1 dX9_put_7 rfl (lv_at hl 1 rfl) ?_
  refine x_get C hw iwX9 8 rfl 0 rfl 2 (by decide) kw91 rfl dX9_put_8 ?_
  refine lv_sipush (v := 940) C.1 C.2.1 dX9_put_11 (by decide) ?_
  refine lv_icmp_ge (tgt := 40) C.1 C.2.1 dX9_put_14 (by decide) (fun h9 => absurd h9 (by decide)) (fun _ => ?_)
  refine lv_aload_n C.1 C.2.1 dX9_put_17 rfl (lv_at hl 1 rfl) ?_
  refine x_get C hw iwX9 8 rfl 0 rfl 1 (by decide) kw89 rfl dX9_put_18 ?_
  refine lv_aload_n C.1 C.2.1 dX9_put_21 rfl (lv_at hl 1 rfl) ?_
  refine x_get C hw iwX9 8 rfl 0 rfl 2 (by decide) kw91 rfl dX9_put_22 ?_
  refine lv_iload_n C.1 C.2.1 dX9_put_25 rfl (lv_at hl 2 rfl) ?_
  refine lv_iload_n C.1 C.2.1 dX9_put_26 rfl (lv_at hl 0 rfl) ?_
  refine lv_iushr (v := ((f9.toUInt32 >>> ((24 : Int32).toUInt32 &&& Int32.toUInt32 31)).toInt32)) C.1 C.2.1 dX9_put_27 rfl ?_
  refine lv_i2b (v := (((f9.toUInt32 >>> ((24 : Int32).toUInt32 &&& Int32.toUInt32 31)).toInt32).toInt8.toInt32)) C.1 C.2.1 dX9_put_28 rfl ?_
  refine x_bast (f' := (upd fb 8 (vp_nar .byte (((f9.toUInt32 >>> ((24 : Int32).toUInt32 &&& Int32.toUInt32 31)).toInt32).toInt8.toInt32)))) (w' := [(qt, .inr (8, [.ref kc, .ref bys, .int 8, .int tmo, .int tfr, .int tki, .int tpl, .int tva, .long tco, .int tke, .int tfa, .int tfp])), (bys, eB G 940 (upd fb 8 (vp_nar .byte (((f9.toUInt32 >>> ((24 : Int32).toUInt32 &&& Int32.toUInt32 31)).toInt32).toInt8.toInt32))))]) C hw 1 rfl (x_in rfl) rfl rfl dX9_put_29 (fun H locs hw => ?_)
  refine lv_aload_n C.1 C.2.1 dX9_put_30 rfl (lv_at hl 1 rfl) ?_
  refine lv_dup C.1 C.2.1 dX9_put_31 rfl ?_
  refine x_get C hw iwX9 8 rfl 0 rfl 2 (by decide) kw91 rfl dX9_put_32 ?_
  refine lv_iconst (v := 1) C.1 C.2.1 dX9_put_35 (by decide) ?_
  refine lv_iadd C.1 C.2.1 dX9_put_36 ?_
  refine x_topi (z := 9) (by decide) ?_
  refine x_put (w' := [(qt, .inr (8, [.ref kc, .ref bys, .int 9, .int tmo, .int tfr, .int tki, .int tpl, .int tva, .long tco, .int tke, .int tfa, .int tfp])), (bys, eB G 940 (upd fb 8 (vp_nar .byte (((f9.toUInt32 >>> ((24 : Int32).toUInt32 &&& Int32.toUInt32 31)).toInt32).toInt8.toInt32))))]) C hw iwX9 tyX9_ok nmX9 8 rfl 0 rfl 2 (by decide) kw91 rfl rfl rfl (Nat.le_of_ble_eq_true rfl) rfl dX9_put_37 (fun H locs hw => ?_)
  refine lv_iinc (v := 16) (lv' := [(2, .int 16), (0, .ref qt), (1, .int f9)]) C.1 C.2.1 dX9_put_40 hl (k := 0) rfl (by decide) (by decide) rfl (fun ls hl => ?_)
  refine lv_goto (tgt := 3) C.1 C.2.1 dX9_put_43 (by decide) ?_
  refine lv_iload_n C.1 C.2.1 dX9_put_3 rfl (lv_at hl 0 rfl) ?_
  refine lv_if_lt (tgt := 46) C.1 C.2.1 dX9_put_4 (by decide) (fun h9 => absurd h9 (by decide)) (fun _ => ?_)
  refine lv_aload_n C.1 C.2.1 dX9_put_7 rfl (lv_at hl 1 rfl) ?_
  refine x_get C hw iwX9 8 rfl 0 rfl 2 (by decide) kw91 rfl dX9_put_8 ?_
  refine lv_sipush (v := 940) C.1 C.2.1 dX9_put_11 (by decide) ?_
  refine lv_icmp_ge (tgt := 40) C.1 C.2.1 dX9_put_14 (by decide) (fun h9 => absurd h9 (by decide)) (fun _ => ?_)
  refine lv_aload_n C.1 C.2.1 dX9_put_17 rfl (lv_at hl 1 rfl) ?_
  refine x_get C hw iwX9 8 rfl 0 rfl 1 (by decide) kw89 rfl dX9_put_18 ?_
  refine lv_aload_n C.1 C.2.1 dX9_put_21 rfl (lv_at hl 1 rfl) ?_
  refine x_get C hw iwX9 8 rfl 0 rfl 2 (by decide) kw91 rfl dX9_put_22 ?_
  refine lv_iload_n C.1 C.2.1 dX9_put_25 rfl (lv_at hl 2 rfl) ?_
  refine lv_iload_n C.1 C.2.1 dX9_put_26 rfl (lv_at hl 0 rfl) ?_
  refine lv_iushr (v := ((f9.toUInt32 >>> ((16 : Int32).toUInt32 &&& Int32.toUInt32 31)).toInt32)) C.1 C.2.1 dX9_put_27 rfl ?_
  refine lv_i2b (v := (((f9.toUInt32 >>> ((16 : Int32).toUInt32 &&& Int32.toUInt32 31)).toInt32).toInt8.toInt32)) C.1 C.2.1 dX9_put_28 rfl ?_
  refine x_bast (f' := (upd (upd fb 8 (vp_nar .byte (((f9.toUInt32 >>> ((24 : Int32).toUInt32 &&& Int32.toUInt32 31)).toInt32).toInt8.toInt32))) 9 (vp_nar .byte (((f9.toUInt32 >>> ((16 : Int32).toUInt32 &&& Int32.toUInt32 31)).toInt32).toInt8.toInt32)))) (w' := [(qt, .inr (8, [.ref kc, .ref bys, .int 9, .int tmo, .int tfr, .int tki, .int tpl, .int tva, .long tco, .int tke, .int tfa, .int tfp])), (bys, eB G 940 (upd (upd fb 8 (vp_nar .byte (((f9.toUInt32 >>> ((24 : Int32).toUInt32 &&& Int32.toUInt32 31)).toInt32).toInt8.toInt32))) 9 (vp_nar .byte (((f9.toUInt32 >>> ((16 : Int32).toUInt32 &&& Int32.toUInt32 31)).toInt32).toInt8.toInt32))))]) C hw 1 rfl (x_in rfl) rfl rfl dX9_put_29 (fun H locs hw => ?_)
  refine lv_aload_n C.1 C.2.1 dX9_put_30 rfl (lv_at hl 1 rfl) ?_
  refine lv_dup C.1 C.2.1 dX9_put_31 rfl ?_
  refine x_get C hw iwX9 8 rfl 0 rfl 2 (by decide) kw91 rfl dX9_put_32 ?_
  refine lv_iconst (v := 1) C.1 C.2.1 dX9_put_35 (by decide) ?_
  refine lv_iadd C.1 C.2.1 dX9_put_36 ?_
  refine x_topi (z := 10) (by decide) ?_
  refine x_put (w' := [(qt, .inr (8, [.ref kc, .ref bys, .int 10, .int tmo, .int tfr, .int tki, .int tpl, .int tva, .long tco, .int tke, .int tfa, .int tfp])), (bys, eB G 940 (upd (upd fb 8 (vp_nar .byte (((f9.toUInt32 >>> ((24 : Int32).toUInt32 &&& Int32.toUInt32 31)).toInt32).toInt8.toInt32))) 9 (vp_nar .byte (((f9.toUInt32 >>> ((16 : Int32).toUInt32 &&& Int32.toUInt32 31)).toInt32).toInt8.toInt32))))]) C hw iwX9 tyX9_ok nmX9 8 rfl 0 rfl 2 (by decide) kw91 rfl rfl rfl (Nat.le_of_ble_eq_true rfl) rfl dX9_put_37 (fun H locs hw => ?_)
  refine lv_iinc (v := 8) (lv' := [(2, .int 8), (0, .ref qt), (1, .int f9)]) C.1 C.2.1 dX9_put_40 hl (k := 0) rfl (by decide) (by decide) rfl (fun ls hl => ?_)
  refine lv_goto (tgt := 3) C.1 C.2.1 dX9_put_43 (by decide) ?_
  refine lv_iload_n C.1 C.2.1 dX9_put_3 rfl (lv_at hl 0 rfl) ?_
  refine lv_if_lt (tgt := 46) C.1 C.2.1 dX9_put_4 (by decide) (fun h9 => absurd h9 (by decide)) (fun _ => ?_)
  refine lv_aload_n C.1 C.2.1 dX9_put_7 rfl (lv_at hl 1 rfl) ?_
  refine x_get C hw iwX9 8 rfl 0 rfl 2 (by decide) kw91 rfl dX9_put_8 ?_
  refine lv_sipush (v := 940) C.1 C.2.1 dX9_put_11 (by decide) ?_
  refine lv_icmp_ge (tgt := 40) C.1 C.2.1 dX9_put_14 (by decide) (fun h9 => absurd h9 (by decide)) (fun _ => ?_)
  refine lv_aload_n C.1 C.2.1 dX9_put_17 rfl (lv_at hl 1 rfl) ?_
  refine x_get C hw iwX9 8 rfl 0 rfl 1 (by decide) kw89 rfl dX9_put_18 ?_
  refine lv_aload_n C.1 C.2.1 dX9_put_21 rfl (lv_at hl 1 rfl) ?_
  refine x_get C hw iwX9 8 rfl 0 rfl 2 (by decide) kw91 rfl dX9_put_22 ?_
  refine lv_iload_n C.1 C.2.1 dX9_put_25 rfl (lv_at hl 2 rfl) ?_
  refine lv_iload_n C.1 C.2.1 dX9_put_26 rfl (lv_at hl 0 rfl) ?_
  refine lv_iushr (v := ((f9.toUInt32 >>> ((8 : Int32).toUInt32 &&& Int32.toUInt32 31)).toInt32)) C.1 C.2.1 dX9_put_27 rfl ?_
  refine lv_i2b (v := (((f9.toUInt32 >>> ((8 : Int32).toUInt32 &&& Int32.toUInt32 31)).toInt32).toInt8.toInt32)) C.1 C.2.1 dX9_put_28 rfl ?_
  refine x_bast (f' := (upd (upd (upd fb 8 (vp_nar .byte (((f9.toUInt32 >>> ((24 : Int32).toUInt32 &&& Int32.toUInt32 31)).toInt32).toInt8.toInt32))) 9 (vp_nar .byte (((f9.toUInt32 >>> ((16 : Int32).toUInt32 &&& Int32.toUInt32 31)).toInt32).toInt8.toInt32))) 10 (vp_nar .byte (((f9.toUInt32 >>> ((8 : Int32).toUInt32 &&& Int32.toUInt32 31)).toInt32).toInt8.toInt32)))) (w' := [(qt, .inr (8, [.ref kc, .ref bys, .int 10, .int tmo, .int tfr, .int tki, .int tpl, .int tva, .long tco, .int tke, .int tfa, .int tfp])), (bys, eB G 940 (upd (upd (upd fb 8 (vp_nar .byte (((f9.toUInt32 >>> ((24 : Int32).toUInt32 &&& Int32.toUInt32 31)).toInt32).toInt8.toInt32))) 9 (vp_nar .byte (((f9.toUInt32 >>> ((16 : Int32).toUInt32 &&& Int32.toUInt32 31)).toInt32).toInt8.toInt32))) 10 (vp_nar .byte (((f9.toUInt32 >>> ((8 : Int32).toUInt32 &&& Int32.toUInt32 31)).toInt32).toInt8.toInt32))))]) C hw 1 rfl (x_in rfl) rfl rfl dX9_put_29 (fun H locs hw => ?_)
  refine lv_aload_n C.1 C.2.1 dX9_put_30 rfl (lv_at hl 1 rfl) ?_
  refine lv_dup C.1 C.2.1 dX9_put_31 rfl ?_
  refine x_get C hw iwX9 8 rfl 0 rfl 2 (by decide) kw91 rfl dX9_put_32 ?_
  refine lv_iconst (v := 1) C.1 C.2.1 dX9_put_35 (by decide) ?_
  refine lv_iadd C.1 C.2.1 dX9_put_36 ?_
  refine x_topi (z := 11) (by decide) ?_
  refine x_put (w' := [(qt, .inr (8, [.ref kc, .ref bys, .int 11, .int tmo, .int tfr, .int tki, .int tpl, .int tva, .long tco, .int tke, .int tfa, .int tfp])), (bys, eB G 940 (upd (upd (upd fb 8 (vp_nar .byte (((f9.toUInt32 >>> ((24 : Int32).toUInt32 &&& Int32.toUInt32 31)).toInt32).toInt8.toInt32))) 9 (vp_nar .byte (((f9.toUInt32 >>> ((16 : Int32).toUInt32 &&& Int32.toUInt32 31)).toInt32).toInt8.toInt32))) 10 (vp_nar .byte (((f9.toUInt32 >>> ((8 : Int32).toUInt32 &&& Int32.toUInt32 31)).toInt32).toInt8.toInt32))))]) C hw iwX9 tyX9_ok nmX9 8 rfl 0 rfl 2 (by decide) kw91 rfl rfl rfl (Nat.le_of_ble_eq_true rfl) rfl dX9_put_37 (fun H locs hw => ?_)
  refine lv_iinc (v := 0) (lv' := [(2, .int 0), (0, .ref qt), (1, .int f9)]) C.1 C.2.1 dX9_put_40 hl (k := 0) rfl (by decide) (by decide) rfl (fun ls hl => ?_)
  refine lv_goto (tgt := 3) C.1 C.2.1 dX9_put_43 (by decide) ?_
  refine lv_iload_n C.1 C.2.1 dX9_put_3 rfl (lv_at hl 0 rfl) ?_
  refine lv_if_lt (tgt := 46) C.1 C.2.1 dX9_put_4 (by decide) (fun h9 => absurd h9 (by decide)) (fun _ => ?_)
  refine lv_aload_n C.1 C.2.1 dX9_put_7 rfl (lv_at hl 1 rfl) ?_
  refine x_get C hw iwX9 8 rfl 0 rfl 2 (by decide) kw91 rfl dX9_put_8 ?_
  refine lv_sipush (v := 940) C.1 C.2.1 dX9_put_11 (by decide) ?_
  refine lv_icmp_ge (tgt := 40) C.1 C.2.1 dX9_put_14 (by decide) (fun h9 => absurd h9 (by decide)) (fun _ => ?_)
  refine lv_aload_n C.1 C.2.1 dX9_put_17 rfl (lv_at hl 1 rfl) ?_
  refine x_get C hw iwX9 8 rfl 0 rfl 1 (by decide) kw89 rfl dX9_put_18 ?_
  refine lv_aload_n C.1 C.2.1 dX9_put_21 rfl (lv_at hl 1 rfl) ?_
  refine x_get C hw iwX9 8 rfl 0 rfl 2 (by decide) kw91 rfl dX9_put_22 ?_
  refine lv_iload_n C.1 C.2.1 dX9_put_25 rfl (lv_at hl 2 rfl) ?_
  refine lv_iload_n C.1 C.2.1 dX9_put_26 rfl (lv_at hl 0 rfl) ?_
  refine lv_iushr (v := ((f9.toUInt32 >>> ((0 : Int32).toUInt32 &&& Int32.toUInt32 31)).toInt32)) C.1 C.2.1 dX9_put_27 rfl ?_
  refine lv_i2b (v := (((f9.toUInt32 >>> ((0 : Int32).toUInt32 &&& Int32.toUInt32 31)).toInt32).toInt8.toInt32)) C.1 C.2.1 dX9_put_28 rfl ?_
  refine x_bast (f' := (upd (upd (upd (upd fb 8 (vp_nar .byte (((f9.toUInt32 >>> ((24 : Int32).toUInt32 &&& Int32.toUInt32 31)).toInt32).toInt8.toInt32))) 9 (vp_nar .byte (((f9.toUInt32 >>> ((16 : Int32).toUInt32 &&& Int32.toUInt32 31)).toInt32).toInt8.toInt32))) 10 (vp_nar .byte (((f9.toUInt32 >>> ((8 : Int32).toUInt32 &&& Int32.toUInt32 31)).toInt32).toInt8.toInt32))) 11 (vp_nar .byte (((f9.toUInt32 >>> ((0 : Int32).toUInt32 &&& Int32.toUInt32 31)).toInt32).toInt8.toInt32)))) (w' := [(qt, .inr (8, [.ref kc, .ref bys, .int 11, .int tmo, .int tfr, .int tki, .int tpl, .int tva, .long tco, .int tke, .int tfa, .int tfp])), (bys, eB G 940 (upd (upd (upd (upd fb 8 (vp_nar .byte (((f9.toUInt32 >>> ((24 : Int32).toUInt32 &&& Int32.toUInt32 31)).toInt32).toInt8.toInt32))) 9 (vp_nar .byte (((f9.toUInt32 >>> ((16 : Int32).toUInt32 &&& Int32.toUInt32 31)).toInt32).toInt8.toInt32))) 10 (vp_nar .byte (((f9.toUInt32 >>> ((8 : Int32).toUInt32 &&& Int32.toUInt32 31)).toInt32).toInt8.toInt32))) 11 (vp_nar .byte (((f9.toUInt32 >>> ((0 : Int32).toUInt32 &&& Int32.toUInt32 31)).toInt32).toInt8.toInt32))))]) C hw 1 rfl (x_in rfl) rfl rfl dX9_put_29 (fun H locs hw => ?_)
  refine lv_aload_n C.1 C.2.1 dX9_put_30 rfl (lv_at hl 1 rfl) ?_
  refine lv_dup C.1 C.2.1 dX9_put_31 rfl ?_
  refine x_get C hw iwX9 8 rfl 0 rfl 2 (by decide) kw91 rfl dX9_put_32 ?_
  refine lv_iconst (v := 1) C.1 C.2.1 dX9_put_35 (by decide) ?_
  refine lv_iadd C.1 C.2.1 dX9_put_36 ?_
  refine x_topi (z := 12) (by decide) ?_
  refine x_put (w' := [(qt, .inr (8, [.ref kc, .ref bys, .int 12, .int tmo, .int tfr, .int tki, .int tpl, .int tva, .long tco, .int tke, .int tfa, .int tfp])), (bys, eB G 940 (upd (upd (upd (upd fb 8 (vp_nar .byte (((f9.toUInt32 >>> ((24 : Int32).toUInt32 &&& Int32.toUInt32 31)).toInt32).toInt8.toInt32))) 9 (vp_nar .byte (((f9.toUInt32 >>> ((16 : Int32).toUInt32 &&& Int32.toUInt32 31)).toInt32).toInt8.toInt32))) 10 (vp_nar .byte (((f9.toUInt32 >>> ((8 : Int32).toUInt32 &&& Int32.toUInt32 31)).toInt32).toInt8.toInt32))) 11 (vp_nar .byte (((f9.toUInt32 >>> ((0 : Int32).toUInt32 &&& Int32.toUInt32 31)).toInt32).toInt8.toInt32))))]) C hw iwX9 tyX9_ok nmX9 8 rfl 0 rfl 2 (by decide) kw91 rfl rfl rfl (Nat.le_of_ble_eq_true rfl) rfl dX9_put_37 (fun H locs hw => ?_)
  refine lv_iinc (v := (-8)) (lv' := [(2, .int (-8)), (0, .ref qt), (1, .int f9)]) C.1 C.2.1 dX9_put_40 hl (k := 0) rfl (by decide) (by decide) rfl (fun ls hl => ?_)
  refine lv_goto (tgt := 3) C.1 C.2.1 dX9_put_43 (by decide) ?_
  refine lv_iload_n C.1 C.2.1 dX9_put_3 rfl (lv_at hl 0 rfl) ?_
  refine lv_if_lt (tgt := 46) C.1 C.2.1 dX9_put_4 (by decide) (fun _ => ?_) (fun h9 => absurd (by decide) h9)
  exact x_retv B hw ⟨(upd (upd (upd (upd fb 8 (vp_nar .byte (((f9.toUInt32 >>> ((24 : Int32).toUInt32 &&& Int32.toUInt32 31)).toInt32).toInt8.toInt32))) 9 (vp_nar .byte (((f9.toUInt32 >>> ((16 : Int32).toUInt32 &&& Int32.toUInt32 31)).toInt32).toInt8.toInt32))) 10 (vp_nar .byte (((f9.toUInt32 >>> ((8 : Int32).toUInt32 &&& Int32.toUInt32 31)).toInt32).toInt8.toInt32))) 11 (vp_nar .byte (((f9.toUInt32 >>> ((0 : Int32).toUInt32 &&& Int32.toUInt32 31)).toInt32).toInt8.toInt32))), rfl⟩ (Nat.le_of_ble_eq_true rfl) (Nat.le_of_ble_eq_true rfl) dX9_put_46
-- Tape.put at 12
set_option maxHeartbeats 4000000 in
set_option maxRecDepth 100000 in
theorem c_X9_put12 {l : Launch} {G : Gc} (qt : Nat) (f9 : Int32) (kc : Nat) (bys : Nat) (tmo : Int32) (tfr : Int32) (tki : Int32) (tpl : Int32) (tva : Int32) (tco : Int64) (tke : Int32) (tfa : Int32) (tfp : Int32) (fb : Nat → Int32)  : Cv l yX9_put cX9_put 3 0 0 0 G [.ref qt, .int f9] [(qt, .inr (8, [.ref kc, .ref bys, .int 12, .int tmo, .int tfr, .int tki, .int tpl, .int tva, .long tco, .int tke, .int tfa, .int tfp])), (bys, eB G 940 fb)] (fun (u9 : va_W) => ∃ (gb : Nat → Int32), u9 = [(qt, .inr (8, [.ref kc, .ref bys, .int 16, .int tmo, .int tfr, .int tki, .int tpl, .int tva, .long tco, .int tke, .int tfa, .int tfp])), (bys, eB G 940 gb)]) := by
  refine Cv.of (by decide) (Nat.le_of_ble_eq_true rfl) ?_
  intro p e s m below meth c ls A B hw hl
  have C : CallFix p m c cX9_put 3 s _ gw "LanternState$Tape" := B.1
  have hl : lv_has ls 3 [(0, .ref qt), (1, .int f9)] := hl
  refine lv_bipush (v := 24) C.1 C.2.1 dX9_put_0 (by decide) ?_
  refine lv_istore_n (lv' := [(2, .int 24), (0, .ref qt), (1, .int f9)]) C.1 C.2.1 dX9_put_2 rfl hl (by decide) rfl (fun ls hl => ?_)
  refine lv_iload_n C.1 C.2.1 dX9_put_3 rfl (lv_at hl 0 rfl) ?_
  refine lv_if_lt (tgt := 46) C.1 C.2.1 dX9_put_4 (by decide) (fun h9 => absurd h9 (by decide)) (fun _ => ?_)
  refine lv_aload_n C.1 C.2.1 dX9_put_7 rfl (lv_at hl 1 rfl) ?_
  refine x_get C hw iwX9 8 rfl 0 rfl 2 (by decide) kw91 rfl dX9_put_8 ?_
  refine lv_sipush (v := 940) C.1 C.2.1 dX9_put_11 (by decide) ?_
  refine lv_icmp_ge (tgt := 40) C.1 C.2.1 dX9_put_14 (by decide) (fun h9 => absurd h9 (by decide)) (fun _ => ?_)
  refine lv_aload_n C.1 C.2.1 dX9_put_17 rfl (lv_at hl 1 rfl) ?_
  refine x_get C hw iwX9 8 rfl 0 rfl 1 (by decide) kw89 rfl dX9_put_18 ?_
  refine lv_aload_n C.1 C.2.1 dX9_put_21 rfl (lv_at hl 1 rfl) ?_
  refine x_get C hw iwX9 8 rfl 0 rfl 2 (by decide) kw91 rfl dX9_put_22 ?_
  refine lv_iload_n C.1 C.2.1 dX9_put_25 rfl (lv_at hl 2 rfl) ?_
  refine lv_iload_n C.1 C.2.1 dX9_put_26 rfl (lv_at hl 0 rfl) ?_
  refine lv_iushr (v := ((f9.toUInt32 >>> ((24 : Int32).toUInt32 &&& Int32.toUInt32 31)).toInt32)) C.1 C.2.1 dX9_put_27 rfl ?_
  refine lv_i2b (v := (((f9.toUInt32 >>> ((24 : Int32).toUInt32 &&& Int32.toUInt32 31)).toInt32).toInt8.toInt32)) C.1 C.2.1 dX9_put_28 rfl ?_
  refine x_bast (f' := (upd fb 12 (vp_nar .byte (((f9.toUInt32 >>> ((24 : Int32).toUInt32 &&& Int32.toUInt32 31)).toInt32).toInt8.toInt32)))) (w' := [(qt, .inr (8, [.ref kc, .ref bys, .int 12, .int tmo, .int tfr, .int tki, .int tpl, .int tva, .long tco, .int tke, .int tfa, .int tfp])), (bys, eB G 940 (upd fb 12 (vp_nar .byte (((f9.toUInt32 >>> ((24 : Int32).toUInt32 &&& Int32.toUInt32 31)).toInt32).toInt8.toInt32))))]) C hw 1 rfl (x_in rfl) rfl rfl dX9_put_29 (fun H locs hw => ?_)
  refine lv_aload_n C.1 C.2.1 dX9_put_30 rfl (lv_at hl 1 rfl) ?_
  refine lv_dup C.1 C.2.1 dX9_put_31 rfl ?_
  refine x_get C hw iwX9 8 rfl 0 rfl 2 (by decide) kw91 rfl dX9_put_32 ?_
  refine lv_iconst (v := 1) C.1 C.2.1 dX9_put_35 (by decide) ?_
  refine lv_iadd C.1 C.2.1 dX9_put_36 ?_
  refine x_topi (z := 13) (by decide) ?_
  refine x_put (w' := [(qt, .inr (8, [.ref kc, .ref bys, .int 13, .int tmo, .int tfr, .int tki, .int tpl, .int tva, .long tco, .int tke, .int tfa, .int tfp])), (bys, eB G 940 (upd fb 12 (vp_nar .byte (((f9.toUInt32 >>> ((24 : Int32).toUInt32 &&& Int32.toUInt32 31)).toInt32).toInt8.toInt32))))]) C hw iwX9 tyX9_ok nmX9 8 rfl 0 rfl 2 (by decide) kw91 rfl rfl rfl (Nat.le_of_ble_eq_true rfl) rfl dX9_put_37 (fun H locs hw => ?_)
  refine lv_iinc (v := 16) (lv' := [(2, .int 16), (0, .ref qt), (1, .int f9)]) C.1 C.2.1 dX9_put_40 hl (k := 0) rfl (by decide) (by decide) rfl (fun ls hl => ?_)
  refine lv_goto (tgt := 3) C.1 C.2.1 dX9_put_43 (by decide) ?_
  refine lv_iload_n C.1 C.2.1 dX9_put_3 rfl (lv_at hl 0 rfl) ?_
  refine lv_if_lt (tgt := 46) C.1 C.2.1 dX9_put_4 (by decide) (fun h9 => absurd h9 (by decide)) (fun _ => ?_)
  refine lv_aload_n C.1 C.2.1 dX9_put_7 rfl (lv_at hl 1 rfl) ?_
  refine x_get C hw iwX9 8 rfl 0 rfl 2 (by decide) kw91 rfl dX9_put_8 ?_
  refine lv_sipush (v := 940) C.1 C.2.1 dX9_put_11 (by decide) ?_
  refine lv_icmp_ge (tgt := 40) C.1 C.2.1 dX9_put_14 (by decide) (fun h9 => absurd h9 (by decide)) (fun _ => ?_)
  refine lv_aload_n C.1 C.2.1 dX9_put_17 rfl (lv_at hl 1 rfl) ?_
  refine x_get C hw iwX9 8 rfl 0 rfl 1 (by decide) kw89 rfl dX9_put_18 ?_
  refine lv_aload_n C.1 C.2.1 dX9_put_21 rfl (lv_at hl 1 rfl) ?_
  refine x_get C hw iwX9 8 rfl 0 rfl 2 (by decide) kw91 rfl dX9_put_22 ?_
  refine lv_iload_n C.1 C.2.1 dX9_put_25 rfl (lv_at hl 2 rfl) ?_
  refine lv_iload_n C.1 C.2.1 dX9_put_26 rfl (lv_at hl 0 rfl) ?_
  refine lv_iushr (v := ((f9.toUInt32 >>> ((16 : Int32).toUInt32 &&& Int32.toUInt32 31)).toInt32)) C.1 C.2.1 dX9_put_27 rfl ?_
  refine lv_i2b (v := (((f9.toUInt32 >>> ((16 : Int32).toUInt32 &&& Int32.toUInt32 31)).toInt32).toInt8.toInt32)) C.1 C.2.1 dX9_put_28 rfl ?_
  refine x_bast (f' := (upd (upd fb 12 (vp_nar .byte (((f9.toUInt32 >>> ((24 : Int32).toUInt32 &&& Int32.toUInt32 31)).toInt32).toInt8.toInt32))) 13 (vp_nar .byte (((f9.toUInt32 >>> ((16 : Int32).toUInt32 &&& Int32.toUInt32 31)).toInt32).toInt8.toInt32)))) (w' := [(qt, .inr (8, [.ref kc, .ref bys, .int 13, .int tmo, .int tfr, .int tki, .int tpl, .int tva, .long tco, .int tke, .int tfa, .int tfp])), (bys, eB G 940 (upd (upd fb 12 (vp_nar .byte (((f9.toUInt32 >>> ((24 : Int32).toUInt32 &&& Int32.toUInt32 31)).toInt32).toInt8.toInt32))) 13 (vp_nar .byte (((f9.toUInt32 >>> ((16 : Int32).toUInt32 &&& Int32.toUInt32 31)).toInt32).toInt8.toInt32))))]) C hw 1 rfl (x_in rfl) rfl rfl dX9_put_29 (fun H locs hw => ?_)
  refine lv_aload_n C.1 C.2.1 dX9_put_30 rfl (lv_at hl 1 rfl) ?_
  refine lv_dup C.1 C.2.1 dX9_put_31 rfl ?_
  refine x_get C hw iwX9 8 rfl 0 rfl 2 (by decide) kw91 rfl dX9_put_32 ?_
  refine lv_iconst (v := 1) C.1 C.2.1 dX9_put_35 (by decide) ?_
  refine lv_iadd C.1 C.2.1 dX9_put_36 ?_
  refine x_topi (z := 14) (by decide) ?_
  refine x_put (w' := [(qt, .inr (8, [.ref kc, .ref bys, .int 14, .int tmo, .int tfr, .int tki, .int tpl, .int tva, .long tco, .int tke, .int tfa, .int tfp])), (bys, eB G 940 (upd (upd fb 12 (vp_nar .byte (((f9.toUInt32 >>> ((24 : Int32).toUInt32 &&& Int32.toUInt32 31)).toInt32).toInt8.toInt32))) 13 (vp_nar .byte (((f9.toUInt32 >>> ((16 : Int32).toUInt32 &&& Int32.toUInt32 31)).toInt32).toInt8.toInt32))))]) C hw iwX9 tyX9_ok nmX9 8 rfl 0 rfl 2 (by decide) kw91 rfl rfl rfl (Nat.le_of_ble_eq_true rfl) rfl dX9_put_37 (fun H locs hw => ?_)
  refine lv_iinc (v := 8) (lv' := [(2, .int 8), (0, .ref qt), (1, .int f9)]) C.1 C.2.1 dX9_put_40 hl (k := 0) rfl (by decide) (by decide) rfl (fun ls hl => ?_)
  refine lv_goto (tgt := 3) C.1 C.2.1 dX9_put_43 (by decide) ?_
  refine lv_iload_n C.1 C.2.1 dX9_put_3 rfl (lv_at hl 0 rfl) ?_
  refine lv_if_lt (tgt := 46) C.1 C.2.1 dX9_put_4 (by decide) (fun h9 => absurd h9 (by decide)) (fun _ => ?_)
  refine lv_aload_n C.1 C.2.1 dX9_put_7 rfl (lv_at hl 1 rfl) ?_
  refine x_get C hw iwX9 8 rfl 0 rfl 2 (by decide) kw91 rfl dX9_put_8 ?_
  refine lv_sipush (v := 940) C.1 C.2.1 dX9_put_11 (by decide) ?_
  refine lv_icmp_ge (tgt := 40) C.1 C.2.1 dX9_put_14 (by decide) (fun h9 => absurd h9 (by decide)) (fun _ => ?_)
  refine lv_aload_n C.1 C.2.1 dX9_put_17 rfl (lv_at hl 1 rfl) ?_
  refine x_get C hw iwX9 8 rfl 0 rfl 1 (by decide) kw89 rfl dX9_put_18 ?_
  refine lv_aload_n C.1 C.2.1 dX9_put_21 rfl (lv_at hl 1 rfl) ?_
  refine x_get C hw iwX9 8 rfl 0 rfl 2 (by decide) kw91 rfl dX9_put_22 ?_
  refine lv_iload_n C.1 C.2.1 dX9_put_25 rfl (lv_at hl 2 rfl) ?_
  refine lv_iload_n C.1 C.2.1 dX9_put_26 rfl (lv_at hl 0 rfl) ?_
  refine lv_iushr (v := ((f9.toUInt32 >>> ((8 : Int32).toUInt32 &&& Int32.toUInt32 31)).toInt32)) C.1 C.2.1 dX9_put_27 rfl ?_
  refine lv_i2b (v := (((f9.toUInt32 >>> ((8 : Int32).toUInt32 &&& Int32.toUInt32 31)).toInt32).toInt8.toInt32)) C.1 C.2.1 dX9_put_28 rfl ?_
  refine x_bast (f' := (upd (upd (upd fb 12 (vp_nar .byte (((f9.toUInt32 >>> ((24 : Int32).toUInt32 &&& Int32.toUInt32 31)).toInt32).toInt8.toInt32))) 13 (vp_nar .byte (((f9.toUInt32 >>> ((16 : Int32).toUInt32 &&& Int32.toUInt32 31)).toInt32).toInt8.toInt32))) 14 (vp_nar .byte (((f9.toUInt32 >>> ((8 : Int32).toUInt32 &&& Int32.toUInt32 31)).toInt32).toInt8.toInt32)))) (w' := [(qt, .inr (8, [.ref kc, .ref bys, .int 14, .int tmo, .int tfr, .int tki, .int tpl, .int tva, .long tco, .int tke, .int tfa, .int tfp])), (bys, eB G 940 (upd (upd (upd fb 12 (vp_nar .byte (((f9.toUInt32 >>> ((24 : Int32).toUInt32 &&& Int32.toUInt32 31)).toInt32).toInt8.toInt32))) 13 (vp_nar .byte (((f9.toUInt32 >>> ((16 : Int32).toUInt32 &&& Int32.toUInt32 31)).toInt32).toInt8.toInt32))) 14 (vp_nar .byte (((f9.toUInt32 >>> ((8 : Int32).toUInt32 &&& Int32.toUInt32 31)).toInt32).toInt8.toInt32))))]) C hw 1 rfl (x_in rfl) rfl rfl dX9_put_29 (fun H locs hw => ?_)
  refine lv_aload_n C.1 C.2.1 dX9_put_30 rfl (lv_at hl 1 rfl) ?_
  refine lv_dup C.1 C.2.1 dX9_put_31 rfl ?_
  refine x_get C hw iwX9 8 rfl 0 rfl 2 (by decide) kw91 rfl dX9_put_32 ?_
  refine lv_iconst (v := 1) C.1 C.2.1 dX9_put_35 (by decide) ?_
  refine lv_iadd C.1 C.2.1 dX9_put_36 ?_
  refine x_topi (z := 15) (by decide) ?_
  refine x_put (w' := [(qt, .inr (8, [.ref kc, .ref bys, .int 15, .int tmo, .int tfr, .int tki, .int tpl, .int tva, .long tco, .int tke, .int tfa, .int tfp])), (bys, eB G 940 (upd (upd (upd fb 12 (vp_nar .byte (((f9.toUInt32 >>> ((24 : Int32).toUInt32 &&& Int32.toUInt32 31)).toInt32).toInt8.toInt32))) 13 (vp_nar .byte (((f9.toUInt32 >>> ((16 : Int32).toUInt32 &&& Int32.toUInt32 31)).toInt32).toInt8.toInt32))) 14 (vp_nar .byte (((f9.toUInt32 >>> ((8 : Int32).toUInt32 &&& Int32.toUInt32 31)).toInt32).toInt8.toInt32))))]) C hw iwX9 tyX9_ok nmX9 8 rfl 0 rfl 2 (by decide) kw91 rfl rfl rfl (Nat.le_of_ble_eq_true rfl) rfl dX9_put_37 (fun H locs hw => ?_)
  refine lv_iinc (v := 0) (lv' := [(2, .int 0), (0, .ref qt), (1, .int f9)]) C.1 C.2.1 dX9_put_40 hl (k := 0) rfl (by decide) (by decide) rfl (fun ls hl => ?_)
  refine lv_goto (tgt := 3) C.1 C.2.1 dX9_put_43 (by decide) ?_
  refine lv_iload_n C.1 C.2.1 dX9_put_3 rfl (lv_at hl 0 rfl) ?_
  refine lv_if_lt (tgt := 46) C.1 C.2.1 dX9_put_4 (by decide) (fun h9 => absurd h9 (by decide)) (fun _ => ?_)
  refine lv_aload_n C.1 C.2.1 dX9_put_7 rfl (lv_at hl 1 rfl) ?_
  refine x_get C hw iwX9 8 rfl 0 rfl 2 (by decide) kw91 rfl dX9_put_8 ?_
  refine lv_sipush (v := 940) C.1 C.2.1 dX9_put_11 (by decide) ?_
  refine lv_icmp_ge (tgt := 40) C.1 C.2.1 dX9_put_14 (by decide) (fun h9 => absurd h9 (by decide)) (fun _ => ?_)
  refine lv_aload_n C.1 C.2.1 dX9_put_17 rfl (lv_at hl 1 rfl) ?_
  refine x_get C hw iwX9 8 rfl 0 rfl 1 (by decide) kw89 rfl dX9_put_18 ?_
  refine lv_aload_n C.1 C.2.1 dX9_put_21 rfl (lv_at hl 1 rfl) ?_
  refine x_get C hw iwX9 8 rfl 0 rfl 2 (by decide) kw91 rfl dX9_put_22 ?_
  refine lv_iload_n C.1 C.2.1 dX9_put_25 rfl (lv_at hl 2 rfl) ?_
  refine lv_iload_n C.1 C.2.1 dX9_put_26 rfl (lv_at hl 0 rfl) ?_
  refine lv_iushr (v := ((f9.toUInt32 >>> ((0 : Int32).toUInt32 &&& Int32.toUInt32 31)).toInt32)) C.1 C.2.1 dX9_put_27 rfl ?_
  refine lv_i2b (v := (((f9.toUInt32 >>> ((0 : Int32).toUInt32 &&& Int32.toUInt32 31)).toInt32).toInt8.toInt32)) C.1 C.2.1 dX9_put_28 rfl ?_
  refine x_bast (f' := (upd (upd (upd (upd fb 12 (vp_nar .byte (((f9.toUInt32 >>> ((24 : Int32).toUInt32 &&& Int32.toUInt32 31)).toInt32).toInt8.toInt32))) 13 (vp_nar .byte (((f9.toUInt32 >>> ((16 : Int32).toUInt32 &&& Int32.toUInt32 31)).toInt32).toInt8.toInt32))) 14 (vp_nar .byte (((f9.toUInt32 >>> ((8 : Int32).toUInt32 &&& Int32.toUInt32 31)).toInt32).toInt8.toInt32))) 15 (vp_nar .byte (((f9.toUInt32 >>> ((0 : Int32).toUInt32 &&& Int32.toUInt32 31)).toInt32).toInt8.toInt32)))) (w' := [(qt, .inr (8, [.ref kc, .ref bys, .int 15, .int tmo, .int tfr, .int tki, .int tpl, .int tva, .long tco, .int tke, .int tfa, .int tfp])), (bys, eB G 940 (upd (upd (upd (upd fb 12 (vp_nar .byte (((f9.toUInt32 >>> ((24 : Int32).toUInt32 &&& Int32.toUInt32 31)).toInt32).toInt8.toInt32))) 13 (vp_nar .byte (((f9.toUInt32 >>> ((16 : Int32).toUInt32 &&& Int32.toUInt32 31)).toInt32).toInt8.toInt32))) 14 (vp_nar .byte (((f9.toUInt32 >>> ((8 : Int32).toUInt32 &&& Int32.toUInt32 31)).toInt32).toInt8.toInt32))) 15 (vp_nar .byte (((f9.toUInt32 >>> ((0 : Int32).toUInt32 &&& Int32.toUInt32 31)).toInt32).toInt8.toInt32))))]) C hw 1 rfl (x_in rfl) rfl rfl dX9_put_29 (fun H locs hw => ?_)
  refine lv_aload_n C.1 C.2.1 dX9_put_30 rfl (lv_at hl 1 rfl) ?_
  refine lv_dup C.1 C.2.1 dX9_put_31 rfl ?_
  refine x_get C hw iwX9 8 rfl 0 rfl 2 (by decide) kw91 rfl dX9_put_32 ?_
  refine lv_iconst (v := 1) C.1 C.2.1 dX9_put_35 (by decide) ?_
  refine lv_iadd C.1 C.2.1 dX9_put_36 ?_
  refine x_topi (z := 16) (by decide) ?_
  refine x_put (w' := [(qt, .inr (8, [.ref kc, .ref bys, .int 16, .int tmo, .int tfr, .int tki, .int tpl, .int tva, .long tco, .int tke, .int tfa, .int tfp])), (bys, eB G 940 (upd (upd (upd (upd fb 12 (vp_nar .byte (((f9.toUInt32 >>> ((24 : Int32).toUInt32 &&& Int32.toUInt32 31)).toInt32).toInt8.toInt32))) 13 (vp_nar .byte (((f9.toUInt32 >>> ((16 : Int32).toUInt32 &&& Int32.toUInt32 31)).toInt32).toInt8.toInt32))) 14 (vp_nar .byte (((f9.toUInt32 >>> ((8 : Int32).toUInt32 &&& Int32.toUInt32 31)).toInt32).toInt8.toInt32))) 15 (vp_nar .byte (((f9.toUInt32 >>> ((0 : Int32).toUInt32 &&& Int32.toUInt32 31)).toInt32).toInt8.toInt32))))]) C hw iwX9 tyX9_ok nmX9 8 rfl 0 rfl 2 (by decide) kw91 rfl rfl rfl (Nat.le_of_ble_eq_true rfl) rfl dX9_put_37 (fun H locs hw => ?_)
  refine lv_iinc (v := (-8)) (lv' := [(2, .int (-8)), (0, .ref qt), (1, .int f9)]) C.1 C.2.1 dX9_put_40 hl (k := 0) rfl (by decide) (by decide) rfl (fun ls hl => ?_)
  refine lv_goto (tgt := 3) C.1 C.2.1 dX9_put_43 (by decide) ?_
  refine lv_iload_n C.1 C.2.1 dX9_put_3 rfl (lv_at hl 0 rfl) ?_
  refine lv_if_lt (tgt := 46) C.1 C.2.1 dX9_put_4 (by decide) (fun _ => ?_) (fun h9 => absurd (by decide) h9)
  exact x_retv B hw ⟨(upd (upd (upd (upd fb 12 (vp_nar .byte (((f9.toUInt32 >>> ((24 : Int32).toUInt32 &&& Int32.toUInt32 31)).toInt32).toInt8.toInt32))) 13 (vp_nar .byte (((f9.toUInt32 >>> ((16 : Int32).toUInt32 &&& Int32.toUInt32 31)).toInt32).toInt8.toInt32))) 14 (vp_nar .byte (((f9.toUInt32 >>> ((8 : Int32).toUInt32 &&& Int32.toUInt32 31)).toInt32).toInt8.toInt32))) 15 (vp_nar .byte (((f9.toUInt32 >>> ((0 : Int32).toUInt32 &&& Int32.toUInt32 31)).toInt32).toInt8.toInt32))), rfl⟩ (Nat.le_of_ble_eq_true rfl) (Nat.le_of_ble_eq_true rfl) dX9_put_46
-- Tape.put at 16
set_option maxHeartbeats 4000000 in
set_option maxRecDepth 100000 in
theorem c_X9_put16 {l : Launch} {G : Gc} (qt : Nat) (f9 : Int32) (kc : Nat) (bys : Nat) (tmo : Int32) (tfr : Int32) (tki : Int32) (tpl : Int32) (tva : Int32) (tco : Int64) (tke : Int32) (tfa : Int32) (tfp : Int32) (fb : Nat → Int32)  : Cv l yX9_put cX9_put 3 0 0 0 G [.ref qt, .int f9] [(qt, .inr (8, [.ref kc, .ref bys, .int 16, .int tmo, .int tfr, .int tki, .int tpl, .int tva, .long tco, .int tke, .int tfa, .int tfp])), (bys, eB G 940 fb)] (fun (u9 : va_W) => ∃ (gb : Nat → Int32), u9 = [(qt, .inr (8, [.ref kc, .ref bys, .int 20, .int tmo, .int tfr, .int tki, .int tpl, .int tva, .long tco, .int tke, .int tfa, .int tfp])), (bys, eB G 940 gb)]) := by
  refine Cv.of (by decide) (Nat.le_of_ble_eq_true rfl) ?_
  intro p e s m below meth c ls A B hw hl
  have C : CallFix p m c cX9_put 3 s _ gw "LanternState$Tape" := B.1
  have hl : lv_has ls 3 [(0, .ref qt), (1, .int f9)] := hl
  refine lv_bipush (v := 24) C.1 C.2.1 dX9_put_0 (by decide) ?_
  refine lv_istore_n (lv' := [(2, .int 24), (0, .ref qt), (1, .int f9)]) C.1 C.2.1 dX9_put_2 rfl hl (by decide) rfl (fun ls hl => ?_)
  refine lv_iload_n C.1 C.2.1 dX9_put_3 rfl (lv_at hl 0 rfl) ?_
  refine lv_if_lt (tgt := 46) C.1 C.2.1 dX9_put_4 (by decide) (fun h9 => absurd h9 (by decide)) (fun _ => ?_)
  refine lv_aload_n C.1 C.2.1 dX9_put_7 rfl (lv_at hl 1 rfl) ?_
  refine x_get C hw iwX9 8 rfl 0 rfl 2 (by decide) kw91 rfl dX9_put_8 ?_
  refine lv_sipush (v := 940) C.1 C.2.1 dX9_put_11 (by decide) ?_
  refine lv_icmp_ge (tgt := 40) C.1 C.2.1 dX9_put_14 (by decide) (fun h9 => absurd h9 (by decide)) (fun _ => ?_)
  refine lv_aload_n C.1 C.2.1 dX9_put_17 rfl (lv_at hl 1 rfl) ?_
  refine x_get C hw iwX9 8 rfl 0 rfl 1 (by decide) kw89 rfl dX9_put_18 ?_
  refine lv_aload_n C.1 C.2.1 dX9_put_21 rfl (lv_at hl 1 rfl) ?_
  refine x_get C hw iwX9 8 rfl 0 rfl 2 (by decide) kw91 rfl dX9_put_22 ?_
  refine lv_iload_n C.1 C.2.1 dX9_put_25 rfl (lv_at hl 2 rfl) ?_
  refine lv_iload_n C.1 C.2.1 dX9_put_26 rfl (lv_at hl 0 rfl) ?_
  refine lv_iushr (v := ((f9.toUInt32 >>> ((24 : Int32).toUInt32 &&& Int32.toUInt32 31)).toInt32)) C.1 C.2.1 dX9_put_27 rfl ?_
  refine lv_i2b (v := (((f9.toUInt32 >>> ((24 : Int32).toUInt32 &&& Int32.toUInt32 31)).toInt32).toInt8.toInt32)) C.1 C.2.1 dX9_put_28 rfl ?_
  refine x_bast (f' := (upd fb 16 (vp_nar .byte (((f9.toUInt32 >>> ((24 : Int32).toUInt32 &&& Int32.toUInt32 31)).toInt32).toInt8.toInt32)))) (w' := [(qt, .inr (8, [.ref kc, .ref bys, .int 16, .int tmo, .int tfr, .int tki, .int tpl, .int tva, .long tco, .int tke, .int tfa, .int tfp])), (bys, eB G 940 (upd fb 16 (vp_nar .byte (((f9.toUInt32 >>> ((24 : Int32).toUInt32 &&& Int32.toUInt32 31)).toInt32).toInt8.toInt32))))]) C hw 1 rfl (x_in rfl) rfl rfl dX9_put_29 (fun H locs hw => ?_)
  refine lv_aload_n C.1 C.2.1 dX9_put_30 rfl (lv_at hl 1 rfl) ?_
  refine lv_dup C.1 C.2.1 dX9_put_31 rfl ?_
  refine x_get C hw iwX9 8 rfl 0 rfl 2 (by decide) kw91 rfl dX9_put_32 ?_
  refine lv_iconst (v := 1) C.1 C.2.1 dX9_put_35 (by decide) ?_
  refine lv_iadd C.1 C.2.1 dX9_put_36 ?_
  refine x_topi (z := 17) (by decide) ?_
  refine x_put (w' := [(qt, .inr (8, [.ref kc, .ref bys, .int 17, .int tmo, .int tfr, .int tki, .int tpl, .int tva, .long tco, .int tke, .int tfa, .int tfp])), (bys, eB G 940 (upd fb 16 (vp_nar .byte (((f9.toUInt32 >>> ((24 : Int32).toUInt32 &&& Int32.toUInt32 31)).toInt32).toInt8.toInt32))))]) C hw iwX9 tyX9_ok nmX9 8 rfl 0 rfl 2 (by decide) kw91 rfl rfl rfl (Nat.le_of_ble_eq_true rfl) rfl dX9_put_37 (fun H locs hw => ?_)
  refine lv_iinc (v := 16) (lv' := [(2, .int 16), (0, .ref qt), (1, .int f9)]) C.1 C.2.1 dX9_put_40 hl (k := 0) rfl (by decide) (by decide) rfl (fun ls hl => ?_)
  refine lv_goto (tgt := 3) C.1 C.2.1 dX9_put_43 (by decide) ?_
  refine lv_iload_n C.1 C.2.1 dX9_put_3 rfl (lv_at hl 0 rfl) ?_
  refine lv_if_lt (tgt := 46) C.1 C.2.1 dX9_put_4 (by decide) (fun h9 => absurd h9 (by decide)) (fun _ => ?_)
  refine lv_aload_n C.1 C.2.1 dX9_put_7 rfl (lv_at hl 1 rfl) ?_
  refine x_get C hw iwX9 8 rfl 0 rfl 2 (by decide) kw91 rfl dX9_put_8 ?_
  refine lv_sipush (v := 940) C.1 C.2.1 dX9_put_11 (by decide) ?_
  refine lv_icmp_ge (tgt := 40) C.1 C.2.1 dX9_put_14 (by decide) (fun h9 => absurd h9 (by decide)) (fun _ => ?_)
  refine lv_aload_n C.1 C.2.1 dX9_put_17 rfl (lv_at hl 1 rfl) ?_
  refine x_get C hw iwX9 8 rfl 0 rfl 1 (by decide) kw89 rfl dX9_put_18 ?_
  refine lv_aload_n C.1 C.2.1 dX9_put_21 rfl (lv_at hl 1 rfl) ?_
  refine x_get C hw iwX9 8 rfl 0 rfl 2 (by decide) kw91 rfl dX9_put_22 ?_
  refine lv_iload_n C.1 C.2.1 dX9_put_25 rfl (lv_at hl 2 rfl) ?_
  refine lv_iload_n C.1 C.2.1 dX9_put_26 rfl (lv_at hl 0 rfl) ?_
  refine lv_iushr (v := ((f9.toUInt32 >>> ((16 : Int32).toUInt32 &&& Int32.toUInt32 31)).toInt32)) C.1 C.2.1 dX9_put_27 rfl ?_
  refine lv_i2b (v := (((f9.toUInt32 >>> ((16 : Int32).toUInt32 &&& Int32.toUInt32 31)).toInt32).toInt8.toInt32)) C.1 C.2.1 dX9_put_28 rfl ?_
  refine x_bast (f' := (upd (upd fb 16 (vp_nar .byte (((f9.toUInt32 >>> ((24 : Int32).toUInt32 &&& Int32.toUInt32 31)).toInt32).toInt8.toInt32))) 17 (vp_nar .byte (((f9.toUInt32 >>> ((16 : Int32).toUInt32 &&& Int32.toUInt32 31)).toInt32).toInt8.toInt32)))) (w' := [(qt, .inr (8, [.ref kc, .ref bys, .int 17, .int tmo, .int tfr, .int tki, .int tpl, .int tva, .long tco, .int tke, .int tfa, .int tfp])), (bys, eB G 940 (upd (upd fb 16 (vp_nar .byte (((f9.toUInt32 >>> ((24 : Int32).toUInt32 &&& Int32.toUInt32 31)).toInt32).toInt8.toInt32))) 17 (vp_nar .byte (((f9.toUInt32 >>> ((16 : Int32).toUInt32 &&& Int32.toUInt32 31)).toInt32).toInt8.toInt32))))]) C hw 1 rfl (x_in rfl) rfl rfl dX9_put_29 (fun H locs hw => ?_)
  refine lv_aload_n C.1 C.2.1 dX9_put_30 rfl (lv_at hl 1 rfl) ?_
  refine lv_dup C.1 C.2.1 dX9_put_31 rfl ?_
  refine x_get C hw iwX9 8 rfl 0 rfl 2 (by decide) kw91 rfl dX9_put_32 ?_
  refine lv_iconst (v := 1) C.1 C.2.1 dX9_put_35 (by decide) ?_
  refine lv_iadd C.1 C.2.1 dX9_put_36 ?_
  refine x_topi (z := 18) (by decide) ?_
  refine x_put (w' := [(qt, .inr (8, [.ref kc, .ref bys, .int 18, .int tmo, .int tfr, .int tki, .int tpl, .int tva, .long tco, .int tke, .int tfa, .int tfp])), (bys, eB G 940 (upd (upd fb 16 (vp_nar .byte (((f9.toUInt32 >>> ((24 : Int32).toUInt32 &&& Int32.toUInt32 31)).toInt32).toInt8.toInt32))) 17 (vp_nar .byte (((f9.toUInt32 >>> ((16 : Int32).toUInt32 &&& Int32.toUInt32 31)).toInt32).toInt8.toInt32))))]) C hw iwX9 tyX9_ok nmX9 8 rfl 0 rfl 2 (by decide) kw91 rfl rfl rfl (Nat.le_of_ble_eq_true rfl) rfl dX9_put_37 (fun H locs hw => ?_)
  refine lv_iinc (v := 8) (lv' := [(2, .int 8), (0, .ref qt), (1, .int f9)]) C.1 C.2.1 dX9_put_40 hl (k := 0) rfl (by decide) (by decide) rfl (fun ls hl => ?_)
  refine lv_goto (tgt := 3) C.1 C.2.1 dX9_put_43 (by decide) ?_
  refine lv_iload_n C.1 C.2.1 dX9_put_3 rfl (lv_at hl 0 rfl) ?_
  refine lv_if_lt (tgt := 46) C.1 C.2.1 dX9_put_4 (by decide) (fun h9 => absurd h9 (by decide)) (fun _ => ?_)
  refine lv_aload_n C.1 C.2.1 dX9_put_7 rfl (lv_at hl 1 rfl) ?_
  refine x_get C hw iwX9 8 rfl 0 rfl 2 (by decide) kw91 rfl dX9_put_8 ?_
  refine lv_sipush (v := 940) C.1 C.2.1 dX9_put_11 (by decide) ?_
  refine lv_icmp_ge (tgt := 40) C.1 C.2.1 dX9_put_14 (by decide) (fun h9 => absurd h9 (by decide)) (fun _ => ?_)
  refine lv_aload_n C.1 C.2.1 dX9_put_17 rfl (lv_at hl 1 rfl) ?_
  refine x_get C hw iwX9 8 rfl 0 rfl 1 (by decide) kw89 rfl dX9_put_18 ?_
  refine lv_aload_n C.1 C.2.1 dX9_put_21 rfl (lv_at hl 1 rfl) ?_
  refine x_get C hw iwX9 8 rfl 0 rfl 2 (by decide) kw91 rfl dX9_put_22 ?_
  refine lv_iload_n C.1 C.2.1 dX9_put_25 rfl (lv_at hl 2 rfl) ?_
  refine lv_iload_n C.1 C.2.1 dX9_put_26 rfl (lv_at hl 0 rfl) ?_
  refine lv_iushr (v := ((f9.toUInt32 >>> ((8 : Int32).toUInt32 &&& Int32.toUInt32 31)).toInt32)) C.1 C.2.1 dX9_put_27 rfl ?_
  refine lv_i2b (v := (((f9.toUInt32 >>> ((8 : Int32).toUInt32 &&& Int32.toUInt32 31)).toInt32).toInt8.toInt32)) C.1 C.2.1 dX9_put_28 rfl ?_
  refine x_bast (f' := (upd (upd (upd fb 16 (vp_nar .byte (((f9.toUInt32 >>> ((24 : Int32).toUInt32 &&& Int32.toUInt32 31)).toInt32).toInt8.toInt32))) 17 (vp_nar .byte (((f9.toUInt32 >>> ((16 : Int32).toUInt32 &&& Int32.toUInt32 31)).toInt32).toInt8.toInt32))) 18 (vp_nar .byte (((f9.toUInt32 >>> ((8 : Int32).toUInt32 &&& Int32.toUInt32 31)).toInt32).toInt8.toInt32)))) (w' := [(qt, .inr (8, [.ref kc, .ref bys, .int 18, .int tmo, .int tfr, .int tki, .int tpl, .int tva, .long tco, .int tke, .int tfa, .int tfp])), (bys, eB G 940 (upd (upd (upd fb 16 (vp_nar .byte (((f9.toUInt32 >>> ((24 : Int32).toUInt32 &&& Int32.toUInt32 31)).toInt32).toInt8.toInt32))) 17 (vp_nar .byte (((f9.toUInt32 >>> ((16 : Int32).toUInt32 &&& Int32.toUInt32 31)).toInt32).toInt8.toInt32))) 18 (vp_nar .byte (((f9.toUInt32 >>> ((8 : Int32).toUInt32 &&& Int32.toUInt32 31)).toInt32).toInt8.toInt32))))]) C hw 1 rfl (x_in rfl) rfl rfl dX9_put_29 (fun H locs hw => ?_)
  refine lv_aload_n C.1 C.2.1 dX9_put_30 rfl (lv_at hl 1 rfl) ?_
  refine lv_dup C.1 C.2.1 dX9_put_31 rfl ?_
  refine x_get C hw iwX9 8 rfl 0 rfl 2 (by decide) kw91 rfl dX9_put_32 ?_
  refine lv_iconst (v := 1) C.1 C.2.1 dX9_put_35 (by decide) ?_
  refine lv_iadd C.1 C.2.1 dX9_put_36 ?_
  refine x_topi (z := 19) (by decide) ?_
  refine x_put (w' := [(qt, .inr (8, [.ref kc, .ref bys, .int 19, .int tmo, .int tfr, .int tki, .int tpl, .int tva, .long tco, .int tke, .int tfa, .int tfp])), (bys, eB G 940 (upd (upd (upd fb 16 (vp_nar .byte (((f9.toUInt32 >>> ((24 : Int32).toUInt32 &&& Int32.toUInt32 31)).toInt32).toInt8.toInt32))) 17 (vp_nar .byte (((f9.toUInt32 >>> ((16 : Int32).toUInt32 &&& Int32.toUInt32 31)).toInt32).toInt8.toInt32))) 18 (vp_nar .byte (((f9.toUInt32 >>> ((8 : Int32).toUInt32 &&& Int32.toUInt32 31)).toInt32).toInt8.toInt32))))]) C hw iwX9 tyX9_ok nmX9 8 rfl 0 rfl 2 (by decide) kw91 rfl rfl rfl (Nat.le_of_ble_eq_true rfl) rfl dX9_put_37 (fun H locs hw => ?_)
  refine lv_iinc (v := 0) (lv' := [(2, .int 0), (0, .ref qt), (1, .int f9)]) C.1 C.2.1 dX9_put_40 hl (k := 0) rfl (by decide) (by decide) rfl (fun ls hl => ?_)
  refine lv_goto (tgt := 3) C.1 C.2.1 dX9_put_43 (by decide) ?_
  refine lv_iload_n C.1 C.2.1 dX9_put_3 rfl (lv_at hl 0 rfl) ?_
  refine lv_if_lt (tgt := 46) C.1 C.2.1 dX9_put_4 (by decide) (fun h9 => absurd h9 (by decide)) (fun _ => ?_)
  refine lv_aload_n C.1 C.2.1 dX9_put_7 rfl (lv_at hl 1 rfl) ?_
  refine x_get C hw iwX9 8 rfl 0 rfl 2 (by decide) kw91 rfl dX9_put_8 ?_
  refine lv_sipush (v := 940) C.1 C.2.1 dX9_put_11 (by decide) ?_
  refine lv_icmp_ge (tgt := 40) C.1 C.2.1 dX9_put_14 (by decide) (fun h9 => absurd h9 (by decide)) (fun _ => ?_)
  refine lv_aload_n C.1 C.2.1 dX9_put_17 rfl (lv_at hl 1 rfl) ?_
  refine x_get C hw iwX9 8 rfl 0 rfl 1 (by decide) kw89 rfl dX9_put_18 ?_
  refine lv_aload_n C.1 C.2.1 dX9_put_21 rfl (lv_at hl 1 rfl) ?_
  refine x_get C hw iwX9 8 rfl 0 rfl 2 (by decide) kw91 rfl dX9_put_22 ?_
  refine lv_iload_n C.1 C.2.1 dX9_put_25 rfl (lv_at hl 2 rfl) ?_
  refine lv_iload_n C.1 C.2.1 dX9_put_26 rfl (lv_at hl 0 rfl) ?_
  refine lv_iushr (v := ((f9.toUInt32 >>> ((0 : Int32).toUInt32 &&& Int32.toUInt32 31)).toInt32)) C.1 C.2.1 dX9_put_27 rfl ?_
  refine lv_i2b (v := (((f9.toUInt32 >>> ((0 : Int32).toUInt32 &&& Int32.toUInt32 31)).toInt32).toInt8.toInt32)) C.1 C.2.1 dX9_put_28 rfl ?_
  refine x_bast (f' := (upd (upd (upd (upd fb 16 (vp_nar .byte (((f9.toUInt32 >>> ((24 : Int32).toUInt32 &&& Int32.toUInt32 31)).toInt32).toInt8.toInt32))) 17 (vp_nar .byte (((f9.toUInt32 >>> ((16 : Int32).toUInt32 &&& Int32.toUInt32 31)).toInt32).toInt8.toInt32))) 18 (vp_nar .byte (((f9.toUInt32 >>> ((8 : Int32).toUInt32 &&& Int32.toUInt32 31)).toInt32).toInt8.toInt32))) 19 (vp_nar .byte (((f9.toUInt32 >>> ((0 : Int32).toUInt32 &&& Int32.toUInt32 31)).toInt32).toInt8.toInt32)))) (w' := [(qt, .inr (8, [.ref kc, .ref bys, .int 19, .int tmo, .int tfr, .int tki, .int tpl, .int tva, .long tco, .int tke, .int tfa, .int tfp])), (bys, eB G 940 (upd (upd (upd (upd fb 16 (vp_nar .byte (((f9.toUInt32 >>> ((24 : Int32).toUInt32 &&& Int32.toUInt32 31)).toInt32).toInt8.toInt32))) 17 (vp_nar .byte (((f9.toUInt32 >>> ((16 : Int32).toUInt32 &&& Int32.toUInt32 31)).toInt32).toInt8.toInt32))) 18 (vp_nar .byte (((f9.toUInt32 >>> ((8 : Int32).toUInt32 &&& Int32.toUInt32 31)).toInt32).toInt8.toInt32))) 19 (vp_nar .byte (((f9.toUInt32 >>> ((0 : Int32).toUInt32 &&& Int32.toUInt32 31)).toInt32).toInt8.toInt32))))]) C hw 1 rfl (x_in rfl) rfl rfl dX9_put_29 (fun H locs hw => ?_)
  refine lv_aload_n C.1 C.2.1 dX9_put_30 rfl (lv_at hl 1 rfl) ?_
  refine lv_dup C.1 C.2.1 dX9_put_31 rfl ?_
  refine x_get C hw iwX9 8 rfl 0 rfl 2 (by decide) kw91 rfl dX9_put_32 ?_
  refine lv_iconst (v := 1) C.1 C.2.1 dX9_put_35 (by decide) ?_
  refine lv_iadd C.1 C.2.1 dX9_put_36 ?_
  refine x_topi (z := 20) (by decide) ?_
  refine x_put (w' := [(qt, .inr (8, [.ref kc, .ref bys, .int 20, .int tmo, .int tfr, .int tki, .int tpl, .int tva, .long tco, .int tke, .int tfa, .int tfp])), (bys, eB G 940 (upd (upd (upd (upd fb 16 (vp_nar .byte (((f9.toUInt32 >>> ((24 : Int32).toUInt32 &&& Int32.toUInt32 31)).toInt32).toInt8.toInt32))) 17 (vp_nar .byte (((f9.toUInt32 >>> ((16 : Int32).toUInt32 &&& Int32.toUInt32 31)).toInt32).toInt8.toInt32))) 18 (vp_nar .byte (((f9.toUInt32 >>> ((8 : Int32).toUInt32 &&& Int32.toUInt32 31)).toInt32).toInt8.toInt32))) 19 (vp_nar .byte (((f9.toUInt32 >>> ((0 : Int32).toUInt32 &&& Int32.toUInt32 31)).toInt32).toInt8.toInt32))))]) C hw iwX9 tyX9_ok nmX9 8 rfl 0 rfl 2 (by decide) kw91 rfl rfl rfl (Nat.le_of_ble_eq_true rfl) rfl dX9_put_37 (fun H locs hw => ?_)
  refine lv_iinc (v := (-8)) (lv' := [(2, .int (-8)), (0, .ref qt), (1, .int f9)]) C.1 C.2.1 dX9_put_40 hl (k := 0) rfl (by decide) (by decide) rfl (fun ls hl => ?_)
  refine lv_goto (tgt := 3) C.1 C.2.1 dX9_put_43 (by decide) ?_
  refine lv_iload_n C.1 C.2.1 dX9_put_3 rfl (lv_at hl 0 rfl) ?_
  refine lv_if_lt (tgt := 46) C.1 C.2.1 dX9_put_4 (by decide) (fun _ => ?_) (fun h9 => absurd (by decide) h9)
  exact x_retv B hw ⟨(upd (upd (upd (upd fb 16 (vp_nar .byte (((f9.toUInt32 >>> ((24 : Int32).toUInt32 &&& Int32.toUInt32 31)).toInt32).toInt8.toInt32))) 17 (vp_nar .byte (((f9.toUInt32 >>> ((16 : Int32).toUInt32 &&& Int32.toUInt32 31)).toInt32).toInt8.toInt32))) 18 (vp_nar .byte (((f9.toUInt32 >>> ((8 : Int32).toUInt32 &&& Int32.toUInt32 31)).toInt32).toInt8.toInt32))) 19 (vp_nar .byte (((f9.toUInt32 >>> ((0 : Int32).toUInt32 &&& Int32.toUInt32 31)).toInt32).toInt8.toInt32))), rfl⟩ (Nat.le_of_ble_eq_true rfl) (Nat.le_of_ble_eq_true rfl) dX9_put_46
end
section
theorem dX5_init_0 : decode cX5_init 0 = .ok (.aload_n 0, 1) := by decide +kernel
theorem dX5_init_1 : decode cX5_init 1 = .ok (.invokespecial 3, 3) := by decide +kernel
theorem dX5_init_4 : decode cX5_init 4 = .ok (.aload_n 0, 1) := by decide +kernel
theorem dX5_init_5 : decode cX5_init 5 = .ok (.iconst 1, 1) := by decide +kernel
theorem dX5_init_6 : decode cX5_init 6 = .ok (.putfield 9, 3) := by decide +kernel
theorem dX5_init_9 : decode cX5_init 9 = .ok (.aload_n 0, 1) := by decide +kernel
theorem dX5_init_10 : decode cX5_init 10 = .ok (.bipush 40, 2) := by decide +kernel
theorem dX5_init_12 : decode cX5_init 12 = .ok (.putfield 15, 3) := by decide +kernel
theorem dX5_init_15 : decode cX5_init 15 = .ok (.aload_n 0, 1) := by decide +kernel
theorem dX5_init_16 : decode cX5_init 16 = .ok (.bipush 6, 2) := by decide +kernel
theorem dX5_init_18 : decode cX5_init 18 = .ok (.newarray .long, 2) := by decide +kernel
theorem dX5_init_20 : decode cX5_init 20 = .ok (.putfield 18, 3) := by decide +kernel
theorem dX5_init_23 : decode cX5_init 23 = .ok (.aload_n 0, 1) := by decide +kernel
theorem dX5_init_24 : decode cX5_init 24 = .ok (.bipush 6, 2) := by decide +kernel
theorem dX5_init_26 : decode cX5_init 26 = .ok (.newarray .int, 2) := by decide +kernel
theorem dX5_init_28 : decode cX5_init 28 = .ok (.putfield 22, 3) := by decide +kernel
theorem dX5_init_31 : decode cX5_init 31 = .ok (.aload_n 0, 1) := by decide +kernel
theorem dX5_init_32 : decode cX5_init 32 = .ok (.bipush 6, 2) := by decide +kernel
theorem dX5_init_34 : decode cX5_init 34 = .ok (.newarray .int, 2) := by decide +kernel
theorem dX5_init_36 : decode cX5_init 36 = .ok (.putfield 26, 3) := by decide +kernel
theorem dX5_init_39 : decode cX5_init 39 = .ok (.aload_n 0, 1) := by decide +kernel
theorem dX5_init_40 : decode cX5_init 40 = .ok (.bipush 6, 2) := by decide +kernel
theorem dX5_init_42 : decode cX5_init 42 = .ok (.newarray .int, 2) := by decide +kernel
theorem dX5_init_44 : decode cX5_init 44 = .ok (.putfield 29, 3) := by decide +kernel
theorem dX5_init_47 : decode cX5_init 47 = .ok (.aload_n 0, 1) := by decide +kernel
theorem dX5_init_48 : decode cX5_init 48 = .ok (.bipush 8, 2) := by decide +kernel
theorem dX5_init_50 : decode cX5_init 50 = .ok (.newarray .long, 2) := by decide +kernel
theorem dX5_init_52 : decode cX5_init 52 = .ok (.putfield 32, 3) := by decide +kernel
theorem dX5_init_55 : decode cX5_init 55 = .ok (.aload_n 0, 1) := by decide +kernel
theorem dX5_init_56 : decode cX5_init 56 = .ok (.bipush 8, 2) := by decide +kernel
theorem dX5_init_58 : decode cX5_init 58 = .ok (.newarray .int, 2) := by decide +kernel
theorem dX5_init_60 : decode cX5_init 60 = .ok (.putfield 35, 3) := by decide +kernel
theorem dX5_init_63 : decode cX5_init 63 = .ok (.aload_n 0, 1) := by decide +kernel
theorem dX5_init_64 : decode cX5_init 64 = .ok (.bipush 8, 2) := by decide +kernel
theorem dX5_init_66 : decode cX5_init 66 = .ok (.newarray .int, 2) := by decide +kernel
theorem dX5_init_68 : decode cX5_init 68 = .ok (.putfield 38, 3) := by decide +kernel
theorem dX5_init_71 : decode cX5_init 71 = .ok (.aload_n 0, 1) := by decide +kernel
theorem dX5_init_72 : decode cX5_init 72 = .ok (.bipush 8, 2) := by decide +kernel
theorem dX5_init_74 : decode cX5_init 74 = .ok (.newarray .int, 2) := by decide +kernel
theorem dX5_init_76 : decode cX5_init 76 = .ok (.putfield 41, 3) := by decide +kernel
theorem dX5_init_79 : decode cX5_init 79 = .ok (.aload_n 0, 1) := by decide +kernel
theorem dX5_init_80 : decode cX5_init 80 = .ok (.bipush 8, 2) := by decide +kernel
theorem dX5_init_82 : decode cX5_init 82 = .ok (.newarray .int, 2) := by decide +kernel
theorem dX5_init_84 : decode cX5_init 84 = .ok (.putfield 44, 3) := by decide +kernel
theorem dX5_init_87 : decode cX5_init 87 = .ok (.return_, 1) := by decide +kernel
-- Scene()
set_option maxHeartbeats 4000000 in
set_option maxRecDepth 100000 in
theorem c_X5_init {l : Launch} {G : Gc} (qs : Nat)  : Cv l yX5_init cX5_init 1 1 9 64 G [.ref qs] [(qs, .inr (4, [.int 0, .int 0, .int 0, .int 0, .int 0, .int 0, .int 0, .int 0, .int 0, .null, .null, .null, .null, .null, .null, .null, .null, .null]))] (fun (u9 : va_W) => ∃ (sslideNames : Nat) (spictures : Nat) (sheats : Nat) (safter : Nat) (shearerNames : Nat) (sneeds : Nat) (slikes : Nat) (shates : Nat) (snear : Nat), u9 = [(qs, .inr (4, [.int 0, .int 0, .int 0, .int 0, .int 1, .int 0, .int 40, .int 0, .int 0, .ref sslideNames, .ref spictures, .ref sheats, .ref safter, .ref shearerNames, .ref sneeds, .ref slikes, .ref shates, .ref snear])), (sslideNames, eJ G 6 (fun _ => 0)), (spictures, eI G 6 (fun _ => 0)), (sheats, eI G 6 (fun _ => 0)), (safter, eI G 6 (fun _ => 0)), (shearerNames, eJ G 8 (fun _ => 0)), (sneeds, eI G 8 (fun _ => 0)), (slikes, eI G 8 (fun _ => 0)), (shates, eI G 8 (fun _ => 0)), (snear, eI G 8 (fun _ => 0))]) := by
  refine Cv.of (by decide) (Nat.le_of_ble_eq_true rfl) ?_
  intro p e s m below meth c ls A B hw hl
  have C : CallFix p m c cX5_init 1 s _ gw "LanternState$Scene" := B.1
  have hl : lv_has ls 1 [(0, .ref qs)] := hl
  refine lv_aload_n C.1 C.2.1 dX5_init_0 rfl (lv_at hl 0 rfl) ?_
  refine x_objInit C kw146 hl.1 (Nat.le_of_ble_eq_true rfl) (Nat.le_of_ble_eq_true rfl) dX5_init_1 ?_
  refine lv_aload_n C.1 C.2.1 dX5_init_4 rfl (lv_at hl 0 rfl) ?_
  refine lv_iconst (v := 1) C.1 C.2.1 dX5_init_5 (by decide) ?_
  refine x_put (w' := [(qs, .inr (4, [.int 0, .int 0, .int 0, .int 0, .int 1, .int 0, .int 0, .int 0, .int 0, .null, .null, .null, .null, .null, .null, .null, .null, .null]))]) C hw iwX5 tyX5_ok nmX5 4 rfl 0 rfl 4 (by decide) kw160 rfl rfl rfl (Nat.le_of_ble_eq_true rfl) rfl dX5_init_6 (fun H locs hw => ?_)
  refine lv_aload_n C.1 C.2.1 dX5_init_9 rfl (lv_at hl 0 rfl) ?_
  refine lv_bipush (v := 40) C.1 C.2.1 dX5_init_10 (by decide) ?_
  refine x_put (w' := [(qs, .inr (4, [.int 0, .int 0, .int 0, .int 0, .int 1, .int 0, .int 40, .int 0, .int 0, .null, .null, .null, .null, .null, .null, .null, .null, .null]))]) C hw iwX5 tyX5_ok nmX5 4 rfl 0 rfl 6 (by decide) kw164 rfl rfl rfl (Nat.le_of_ble_eq_true rfl) rfl dX5_init_12 (fun H locs hw => ?_)
  refine lv_aload_n C.1 C.2.1 dX5_init_15 rfl (lv_at hl 0 rfl) ?_
  refine lv_bipush (v := 6) C.1 C.2.1 dX5_init_16 (by decide) ?_
  refine x_newa (a0 := (6, .inr (.inl (fun _ => 0)))) (N := 6) C hw (atype := .long) rfl 3 rfl kw139 (fun _ => rfl) (by decide) (by decide) (Nat.le_of_ble_eq_true rfl) (Nat.le_of_ble_eq_true rfl) (Nat.le_of_ble_eq_true rfl) dX5_init_18 (fun q1 H hw => ?_)
  have hw : Wd G s A [(qs, .inr (4, [.int 0, .int 0, .int 0, .int 0, .int 1, .int 0, .int 40, .int 0, .int 0, .null, .null, .null, .null, .null, .null, .null, .null, .null])), (q1, eJ G 6 (fun _ => 0))] H _ := hw
  refine W.widen (k := 1) (n := 6) (Nat.le_of_ble_eq_true rfl) (Nat.le_of_ble_eq_true rfl) ?_
  refine x_putF (w' := [(qs, .inr (4, [.int 0, .int 0, .int 0, .int 0, .int 1, .int 0, .int 40, .int 0, .int 0, .ref q1, .null, .null, .null, .null, .null, .null, .null, .null])), (q1, eJ G 6 (fun _ => 0))]) C hw iwX5 tyX5_ok nmX5 B.2.2.2 4 rfl 0 rfl 9 (by decide) kw171 rfl rfl rfl rfl (Nat.le_of_ble_eq_true rfl) rfl dX5_init_20 (fun H locs hw => ?_)
  refine lv_aload_n C.1 C.2.1 dX5_init_23 rfl (lv_at hl 0 rfl) ?_
  refine lv_bipush (v := 6) C.1 C.2.1 dX5_init_24 (by decide) ?_
  refine x_newa (a0 := (6, .inl (fun _ => 0))) (N := 6) C hw (atype := .int) rfl 2 rfl kw230 (fun _ => rfl) (by decide) (by decide) (Nat.le_of_ble_eq_true rfl) (Nat.le_of_ble_eq_true rfl) (Nat.le_of_ble_eq_true rfl) dX5_init_26 (fun q2 H hw => ?_)
  have hw : Wd G s A [(qs, .inr (4, [.int 0, .int 0, .int 0, .int 0, .int 1, .int 0, .int 40, .int 0, .int 0, .ref q1, .null, .null, .null, .null, .null, .null, .null, .null])), (q1, eJ G 6 (fun _ => 0)), (q2, eI G 6 (fun _ => 0))] H _ := hw
  refine W.widen (k := 2) (n := 12) (Nat.le_of_ble_eq_true rfl) (Nat.le_of_ble_eq_true rfl) ?_
  refine x_putF (w' := [(qs, .inr (4, [.int 0, .int 0, .int 0, .int 0, .int 1, .int 0, .int 40, .int 0, .int 0, .ref q1, .ref q2, .null, .null, .null, .null, .null, .null, .null])), (q1, eJ G 6 (fun _ => 0)), (q2, eI G 6 (fun _ => 0))]) C hw iwX5 tyX5_ok nmX5 B.2.2.2 4 rfl 0 rfl 10 (by decide) kw173 rfl rfl rfl rfl (Nat.le_of_ble_eq_true rfl) rfl dX5_init_28 (fun H locs hw => ?_)
  refine lv_aload_n C.1 C.2.1 dX5_init_31 rfl (lv_at hl 0 rfl) ?_
  refine lv_bipush (v := 6) C.1 C.2.1 dX5_init_32 (by decide) ?_
  refine x_newa (a0 := (6, .inl (fun _ => 0))) (N := 6) C hw (atype := .int) rfl 2 rfl kw230 (fun _ => rfl) (by decide) (by decide) (Nat.le_of_ble_eq_true rfl) (Nat.le_of_ble_eq_true rfl) (Nat.le_of_ble_eq_true rfl) dX5_init_34 (fun q3 H hw => ?_)
  have hw : Wd G s A [(qs, .inr (4, [.int 0, .int 0, .int 0, .int 0, .int 1, .int 0, .int 40, .int 0, .int 0, .ref q1, .ref q2, .null, .null, .null, .null, .null, .null, .null])), (q1, eJ G 6 (fun _ => 0)), (q2, eI G 6 (fun _ => 0)), (q3, eI G 6 (fun _ => 0))] H _ := hw
  refine W.widen (k := 3) (n := 18) (Nat.le_of_ble_eq_true rfl) (Nat.le_of_ble_eq_true rfl) ?_
  refine x_putF (w' := [(qs, .inr (4, [.int 0, .int 0, .int 0, .int 0, .int 1, .int 0, .int 40, .int 0, .int 0, .ref q1, .ref q2, .ref q3, .null, .null, .null, .null, .null, .null])), (q1, eJ G 6 (fun _ => 0)), (q2, eI G 6 (fun _ => 0)), (q3, eI G 6 (fun _ => 0))]) C hw iwX5 tyX5_ok nmX5 B.2.2.2 4 rfl 0 rfl 11 (by decide) kw175 rfl rfl rfl rfl (Nat.le_of_ble_eq_true rfl) rfl dX5_init_36 (fun H locs hw => ?_)
  refine lv_aload_n C.1 C.2.1 dX5_init_39 rfl (lv_at hl 0 rfl) ?_
  refine lv_bipush (v := 6) C.1 C.2.1 dX5_init_40 (by decide) ?_
  refine x_newa (a0 := (6, .inl (fun _ => 0))) (N := 6) C hw (atype := .int) rfl 2 rfl kw230 (fun _ => rfl) (by decide) (by decide) (Nat.le_of_ble_eq_true rfl) (Nat.le_of_ble_eq_true rfl) (Nat.le_of_ble_eq_true rfl) dX5_init_42 (fun q4 H hw => ?_)
  have hw : Wd G s A [(qs, .inr (4, [.int 0, .int 0, .int 0, .int 0, .int 1, .int 0, .int 40, .int 0, .int 0, .ref q1, .ref q2, .ref q3, .null, .null, .null, .null, .null, .null])), (q1, eJ G 6 (fun _ => 0)), (q2, eI G 6 (fun _ => 0)), (q3, eI G 6 (fun _ => 0)), (q4, eI G 6 (fun _ => 0))] H _ := hw
  refine W.widen (k := 4) (n := 24) (Nat.le_of_ble_eq_true rfl) (Nat.le_of_ble_eq_true rfl) ?_
  refine x_putF (w' := [(qs, .inr (4, [.int 0, .int 0, .int 0, .int 0, .int 1, .int 0, .int 40, .int 0, .int 0, .ref q1, .ref q2, .ref q3, .ref q4, .null, .null, .null, .null, .null])), (q1, eJ G 6 (fun _ => 0)), (q2, eI G 6 (fun _ => 0)), (q3, eI G 6 (fun _ => 0)), (q4, eI G 6 (fun _ => 0))]) C hw iwX5 tyX5_ok nmX5 B.2.2.2 4 rfl 0 rfl 12 (by decide) kw180 rfl rfl rfl rfl (Nat.le_of_ble_eq_true rfl) rfl dX5_init_44 (fun H locs hw => ?_)
  refine lv_aload_n C.1 C.2.1 dX5_init_47 rfl (lv_at hl 0 rfl) ?_
  refine lv_bipush (v := 8) C.1 C.2.1 dX5_init_48 (by decide) ?_
  refine x_newa (a0 := (8, .inr (.inl (fun _ => 0)))) (N := 8) C hw (atype := .long) rfl 3 rfl kw139 (fun _ => rfl) (by decide) (by decide) (Nat.le_of_ble_eq_true rfl) (Nat.le_of_ble_eq_true rfl) (Nat.le_of_ble_eq_true rfl) dX5_init_50 (fun q5 H hw => ?_)
  have hw : Wd G s A [(qs, .inr (4, [.int 0, .int 0, .int 0, .int 0, .int 1, .int 0, .int 40, .int 0, .int 0, .ref q1, .ref q2, .ref q3, .ref q4, .null, .null, .null, .null, .null])), (q1, eJ G 6 (fun _ => 0)), (q2, eI G 6 (fun _ => 0)), (q3, eI G 6 (fun _ => 0)), (q4, eI G 6 (fun _ => 0)), (q5, eJ G 8 (fun _ => 0))] H _ := hw
  refine W.widen (k := 5) (n := 32) (Nat.le_of_ble_eq_true rfl) (Nat.le_of_ble_eq_true rfl) ?_
  refine x_putF (w' := [(qs, .inr (4, [.int 0, .int 0, .int 0, .int 0, .int 1, .int 0, .int 40, .int 0, .int 0, .ref q1, .ref q2, .ref q3, .ref q4, .ref q5, .null, .null, .null, .null])), (q1, eJ G 6 (fun _ => 0)), (q2, eI G 6 (fun _ => 0)), (q3, eI G 6 (fun _ => 0)), (q4, eI G 6 (fun _ => 0)), (q5, eJ G 8 (fun _ => 0))]) C hw iwX5 tyX5_ok nmX5 B.2.2.2 4 rfl 0 rfl 13 (by decide) kw184 rfl rfl rfl rfl (Nat.le_of_ble_eq_true rfl) rfl dX5_init_52 (fun H locs hw => ?_)
  refine lv_aload_n C.1 C.2.1 dX5_init_55 rfl (lv_at hl 0 rfl) ?_
  refine lv_bipush (v := 8) C.1 C.2.1 dX5_init_56 (by decide) ?_
  refine x_newa (a0 := (8, .inl (fun _ => 0))) (N := 8) C hw (atype := .int) rfl 2 rfl kw230 (fun _ => rfl) (by decide) (by decide) (Nat.le_of_ble_eq_true rfl) (Nat.le_of_ble_eq_true rfl) (Nat.le_of_ble_eq_true rfl) dX5_init_58 (fun q6 H hw => ?_)
  have hw : Wd G s A [(qs, .inr (4, [.int 0, .int 0, .int 0, .int 0, .int 1, .int 0, .int 40, .int 0, .int 0, .ref q1, .ref q2, .ref q3, .ref q4, .ref q5, .null, .null, .null, .null])), (q1, eJ G 6 (fun _ => 0)), (q2, eI G 6 (fun _ => 0)), (q3, eI G 6 (fun _ => 0)), (q4, eI G 6 (fun _ => 0)), (q5, eJ G 8 (fun _ => 0)), (q6, eI G 8 (fun _ => 0))] H _ := hw
  refine W.widen (k := 6) (n := 40) (Nat.le_of_ble_eq_true rfl) (Nat.le_of_ble_eq_true rfl) ?_
  refine x_putF (w' := [(qs, .inr (4, [.int 0, .int 0, .int 0, .int 0, .int 1, .int 0, .int 40, .int 0, .int 0, .ref q1, .ref q2, .ref q3, .ref q4, .ref q5, .ref q6, .null, .null, .null])), (q1, eJ G 6 (fun _ => 0)), (q2, eI G 6 (fun _ => 0)), (q3, eI G 6 (fun _ => 0)), (q4, eI G 6 (fun _ => 0)), (q5, eJ G 8 (fun _ => 0)), (q6, eI G 8 (fun _ => 0))]) C hw iwX5 tyX5_ok nmX5 B.2.2.2 4 rfl 0 rfl 14 (by decide) kw185 rfl rfl rfl rfl (Nat.le_of_ble_eq_true rfl) rfl dX5_init_60 (fun H locs hw => ?_)
  refine lv_aload_n C.1 C.2.1 dX5_init_63 rfl (lv_at hl 0 rfl) ?_
  refine lv_bipush (v := 8) C.1 C.2.1 dX5_init_64 (by decide) ?_
  refine x_newa (a0 := (8, .inl (fun _ => 0))) (N := 8) C hw (atype := .int) rfl 2 rfl kw230 (fun _ => rfl) (by decide) (by decide) (Nat.le_of_ble_eq_true rfl) (Nat.le_of_ble_eq_true rfl) (Nat.le_of_ble_eq_true rfl) dX5_init_66 (fun q7 H hw => ?_)
  have hw : Wd G s A [(qs, .inr (4, [.int 0, .int 0, .int 0, .int 0, .int 1, .int 0, .int 40, .int 0, .int 0, .ref q1, .ref q2, .ref q3, .ref q4, .ref q5, .ref q6, .null, .null, .null])), (q1, eJ G 6 (fun _ => 0)), (q2, eI G 6 (fun _ => 0)), (q3, eI G 6 (fun _ => 0)), (q4, eI G 6 (fun _ => 0)), (q5, eJ G 8 (fun _ => 0)), (q6, eI G 8 (fun _ => 0)), (q7, eI G 8 (fun _ => 0))] H _ := hw
  refine W.widen (k := 7) (n := 48) (Nat.le_of_ble_eq_true rfl) (Nat.le_of_ble_eq_true rfl) ?_
  refine x_putF (w' := [(qs, .inr (4, [.int 0, .int 0, .int 0, .int 0, .int 1, .int 0, .int 40, .int 0, .int 0, .ref q1, .ref q2, .ref q3, .ref q4, .ref q5, .ref q6, .ref q7, .null, .null])), (q1, eJ G 6 (fun _ => 0)), (q2, eI G 6 (fun _ => 0)), (q3, eI G 6 (fun _ => 0)), (q4, eI G 6 (fun _ => 0)), (q5, eJ G 8 (fun _ => 0)), (q6, eI G 8 (fun _ => 0)), (q7, eI G 8 (fun _ => 0))]) C hw iwX5 tyX5_ok nmX5 B.2.2.2 4 rfl 0 rfl 15 (by decide) kw187 rfl rfl rfl rfl (Nat.le_of_ble_eq_true rfl) rfl dX5_init_68 (fun H locs hw => ?_)
  refine lv_aload_n C.1 C.2.1 dX5_init_71 rfl (lv_at hl 0 rfl) ?_
  refine lv_bipush (v := 8) C.1 C.2.1 dX5_init_72 (by decide) ?_
  refine x_newa (a0 := (8, .inl (fun _ => 0))) (N := 8) C hw (atype := .int) rfl 2 rfl kw230 (fun _ => rfl) (by decide) (by decide) (Nat.le_of_ble_eq_true rfl) (Nat.le_of_ble_eq_true rfl) (Nat.le_of_ble_eq_true rfl) dX5_init_74 (fun q8 H hw => ?_)
  have hw : Wd G s A [(qs, .inr (4, [.int 0, .int 0, .int 0, .int 0, .int 1, .int 0, .int 40, .int 0, .int 0, .ref q1, .ref q2, .ref q3, .ref q4, .ref q5, .ref q6, .ref q7, .null, .null])), (q1, eJ G 6 (fun _ => 0)), (q2, eI G 6 (fun _ => 0)), (q3, eI G 6 (fun _ => 0)), (q4, eI G 6 (fun _ => 0)), (q5, eJ G 8 (fun _ => 0)), (q6, eI G 8 (fun _ => 0)), (q7, eI G 8 (fun _ => 0)), (q8, eI G 8 (fun _ => 0))] H _ := hw
  refine W.widen (k := 8) (n := 56) (Nat.le_of_ble_eq_true rfl) (Nat.le_of_ble_eq_true rfl) ?_
  refine x_putF (w' := [(qs, .inr (4, [.int 0, .int 0, .int 0, .int 0, .int 1, .int 0, .int 40, .int 0, .int 0, .ref q1, .ref q2, .ref q3, .ref q4, .ref q5, .ref q6, .ref q7, .ref q8, .null])), (q1, eJ G 6 (fun _ => 0)), (q2, eI G 6 (fun _ => 0)), (q3, eI G 6 (fun _ => 0)), (q4, eI G 6 (fun _ => 0)), (q5, eJ G 8 (fun _ => 0)), (q6, eI G 8 (fun _ => 0)), (q7, eI G 8 (fun _ => 0)), (q8, eI G 8 (fun _ => 0))]) C hw iwX5 tyX5_ok nmX5 B.2.2.2 4 rfl 0 rfl 16 (by decide) kw189 rfl rfl rfl rfl (Nat.le_of_ble_eq_true rfl) rfl dX5_init_76 (fun H locs hw => ?_)
  refine lv_aload_n C.1 C.2.1 dX5_init_79 rfl (lv_at hl 0 rfl) ?_
  refine lv_bipush (v := 8) C.1 C.2.1 dX5_init_80 (by decide) ?_
  refine x_newa (a0 := (8, .inl (fun _ => 0))) (N := 8) C hw (atype := .int) rfl 2 rfl kw230 (fun _ => rfl) (by decide) (by decide) (Nat.le_of_ble_eq_true rfl) (Nat.le_of_ble_eq_true rfl) (Nat.le_of_ble_eq_true rfl) dX5_init_82 (fun q9 H hw => ?_)
  have hw : Wd G s A [(qs, .inr (4, [.int 0, .int 0, .int 0, .int 0, .int 1, .int 0, .int 40, .int 0, .int 0, .ref q1, .ref q2, .ref q3, .ref q4, .ref q5, .ref q6, .ref q7, .ref q8, .null])), (q1, eJ G 6 (fun _ => 0)), (q2, eI G 6 (fun _ => 0)), (q3, eI G 6 (fun _ => 0)), (q4, eI G 6 (fun _ => 0)), (q5, eJ G 8 (fun _ => 0)), (q6, eI G 8 (fun _ => 0)), (q7, eI G 8 (fun _ => 0)), (q8, eI G 8 (fun _ => 0)), (q9, eI G 8 (fun _ => 0))] H _ := hw
  refine W.widen (k := 9) (n := 64) (Nat.le_of_ble_eq_true rfl) (Nat.le_of_ble_eq_true rfl) ?_
  refine x_putF (w' := [(qs, .inr (4, [.int 0, .int 0, .int 0, .int 0, .int 1, .int 0, .int 40, .int 0, .int 0, .ref q1, .ref q2, .ref q3, .ref q4, .ref q5, .ref q6, .ref q7, .ref q8, .ref q9])), (q1, eJ G 6 (fun _ => 0)), (q2, eI G 6 (fun _ => 0)), (q3, eI G 6 (fun _ => 0)), (q4, eI G 6 (fun _ => 0)), (q5, eJ G 8 (fun _ => 0)), (q6, eI G 8 (fun _ => 0)), (q7, eI G 8 (fun _ => 0)), (q8, eI G 8 (fun _ => 0)), (q9, eI G 8 (fun _ => 0))]) C hw iwX5 tyX5_ok nmX5 B.2.2.2 4 rfl 0 rfl 17 (by decide) kw191 rfl rfl rfl rfl (Nat.le_of_ble_eq_true rfl) rfl dX5_init_84 (fun H locs hw => ?_)
  exact x_retv B hw ⟨q1, q2, q3, q4, q5, q6, q7, q8, q9, rfl⟩ (Nat.le_of_ble_eq_true rfl) (Nat.le_of_ble_eq_true rfl) dX5_init_87
theorem dX8_init_0 : decode cX8_init 0 = .ok (.aload_n 0, 1) := by decide +kernel
theorem dX8_init_1 : decode cX8_init 1 = .ok (.invokespecial 3, 3) := by decide +kernel
theorem dX8_init_4 : decode cX8_init 4 = .ok (.aload_n 0, 1) := by decide +kernel
theorem dX8_init_5 : decode cX8_init 5 = .ok (.bipush 6, 2) := by decide +kernel
theorem dX8_init_7 : decode cX8_init 7 = .ok (.newarray .int, 2) := by decide +kernel
theorem dX8_init_9 : decode cX8_init 9 = .ok (.putfield 9, 3) := by decide +kernel
theorem dX8_init_12 : decode cX8_init 12 = .ok (.aload_n 0, 1) := by decide +kernel
theorem dX8_init_13 : decode cX8_init 13 = .ok (.bipush 6, 2) := by decide +kernel
theorem dX8_init_15 : decode cX8_init 15 = .ok (.newarray .int, 2) := by decide +kernel
theorem dX8_init_17 : decode cX8_init 17 = .ok (.putfield 15, 3) := by decide +kernel
theorem dX8_init_20 : decode cX8_init 20 = .ok (.aload_n 0, 1) := by decide +kernel
theorem dX8_init_21 : decode cX8_init 21 = .ok (.bipush 8, 2) := by decide +kernel
theorem dX8_init_23 : decode cX8_init 23 = .ok (.newarray .int, 2) := by decide +kernel
theorem dX8_init_25 : decode cX8_init 25 = .ok (.putfield 18, 3) := by decide +kernel
theorem dX8_init_28 : decode cX8_init 28 = .ok (.return_, 1) := by decide +kernel
-- State()
set_option maxHeartbeats 4000000 in
set_option maxRecDepth 100000 in
theorem c_X8_init {l : Launch} {G : Gc} (qa : Nat)  : Cv l yX8_init cX8_init 1 1 3 20 G [.ref qa] [(qa, .inr (7, [.int 0, .int 0, .int 0, .int 0, .int 0, .int 0, .int 0, .int 0, .null, .null, .null]))] (fun (u9 : va_W) => ∃ (apictures : Nat) (ashown : Nat) (asighed : Nat), u9 = [(qa, .inr (7, [.int 0, .int 0, .int 0, .int 0, .int 0, .int 0, .int 0, .int 0, .ref apictures, .ref ashown, .ref asighed])), (apictures, eI G 6 (fun _ => 0)), (ashown, eI G 6 (fun _ => 0)), (asighed, eI G 8 (fun _ => 0))]) := by
  refine Cv.of (by decide) (Nat.le_of_ble_eq_true rfl) ?_
  intro p e s m below meth c ls A B hw hl
  have C : CallFix p m c cX8_init 1 s _ gw "LanternState$State" := B.1
  have hl : lv_has ls 1 [(0, .ref qa)] := hl
  refine lv_aload_n C.1 C.2.1 dX8_init_0 rfl (lv_at hl 0 rfl) ?_
  refine x_objInit C kw236 hl.1 (Nat.le_of_ble_eq_true rfl) (Nat.le_of_ble_eq_true rfl) dX8_init_1 ?_
  refine lv_aload_n C.1 C.2.1 dX8_init_4 rfl (lv_at hl 0 rfl) ?_
  refine lv_bipush (v := 6) C.1 C.2.1 dX8_init_5 (by decide) ?_
  refine x_newa (a0 := (6, .inl (fun _ => 0))) (N := 6) C hw (atype := .int) rfl 2 rfl kw230 (fun _ => rfl) (by decide) (by decide) (Nat.le_of_ble_eq_true rfl) (Nat.le_of_ble_eq_true rfl) (Nat.le_of_ble_eq_true rfl) dX8_init_7 (fun q1 H hw => ?_)
  have hw : Wd G s A [(qa, .inr (7, [.int 0, .int 0, .int 0, .int 0, .int 0, .int 0, .int 0, .int 0, .null, .null, .null])), (q1, eI G 6 (fun _ => 0))] H _ := hw
  refine W.widen (k := 1) (n := 6) (Nat.le_of_ble_eq_true rfl) (Nat.le_of_ble_eq_true rfl) ?_
  refine x_putF (w' := [(qa, .inr (7, [.int 0, .int 0, .int 0, .int 0, .int 0, .int 0, .int 0, .int 0, .ref q1, .null, .null])), (q1, eI G 6 (fun _ => 0))]) C hw iwX8 tyX8_ok nmX8 B.2.2.2 7 rfl 0 rfl 8 (by decide) kw263 rfl rfl rfl rfl (Nat.le_of_ble_eq_true rfl) rfl dX8_init_9 (fun H locs hw => ?_)
  refine lv_aload_n C.1 C.2.1 dX8_init_12 rfl (lv_at hl 0 rfl) ?_
  refine lv_bipush (v := 6) C.1 C.2.1 dX8_init_13 (by decide) ?_
  refine x_newa (a0 := (6, .inl (fun _ => 0))) (N := 6) C hw (atype := .int) rfl 2 rfl kw230 (fun _ => rfl) (by decide) (by decide) (Nat.le_of_ble_eq_true rfl) (Nat.le_of_ble_eq_true rfl) (Nat.le_of_ble_eq_true rfl) dX8_init_15 (fun q2 H hw => ?_)
  have hw : Wd G s A [(qa, .inr (7, [.int 0, .int 0, .int 0, .int 0, .int 0, .int 0, .int 0, .int 0, .ref q1, .null, .null])), (q1, eI G 6 (fun _ => 0)), (q2, eI G 6 (fun _ => 0))] H _ := hw
  refine W.widen (k := 2) (n := 12) (Nat.le_of_ble_eq_true rfl) (Nat.le_of_ble_eq_true rfl) ?_
  refine x_putF (w' := [(qa, .inr (7, [.int 0, .int 0, .int 0, .int 0, .int 0, .int 0, .int 0, .int 0, .ref q1, .ref q2, .null])), (q1, eI G 6 (fun _ => 0)), (q2, eI G 6 (fun _ => 0))]) C hw iwX8 tyX8_ok nmX8 B.2.2.2 7 rfl 0 rfl 9 (by decide) kw267 rfl rfl rfl rfl (Nat.le_of_ble_eq_true rfl) rfl dX8_init_17 (fun H locs hw => ?_)
  refine lv_aload_n C.1 C.2.1 dX8_init_20 rfl (lv_at hl 0 rfl) ?_
  refine lv_bipush (v := 8) C.1 C.2.1 dX8_init_21 (by decide) ?_
  refine x_newa (a0 := (8, .inl (fun _ => 0))) (N := 8) C hw (atype := .int) rfl 2 rfl kw230 (fun _ => rfl) (by decide) (by decide) (Nat.le_of_ble_eq_true rfl) (Nat.le_of_ble_eq_true rfl) (Nat.le_of_ble_eq_true rfl) dX8_init_23 (fun q3 H hw => ?_)
  have hw : Wd G s A [(qa, .inr (7, [.int 0, .int 0, .int 0, .int 0, .int 0, .int 0, .int 0, .int 0, .ref q1, .ref q2, .null])), (q1, eI G 6 (fun _ => 0)), (q2, eI G 6 (fun _ => 0)), (q3, eI G 8 (fun _ => 0))] H _ := hw
  refine W.widen (k := 3) (n := 20) (Nat.le_of_ble_eq_true rfl) (Nat.le_of_ble_eq_true rfl) ?_
  refine x_putF (w' := [(qa, .inr (7, [.int 0, .int 0, .int 0, .int 0, .int 0, .int 0, .int 0, .int 0, .ref q1, .ref q2, .ref q3])), (q1, eI G 6 (fun _ => 0)), (q2, eI G 6 (fun _ => 0)), (q3, eI G 8 (fun _ => 0))]) C hw iwX8 tyX8_ok nmX8 B.2.2.2 7 rfl 0 rfl 10 (by decide) kw269 rfl rfl rfl rfl (Nat.le_of_ble_eq_true rfl) rfl dX8_init_25 (fun H locs hw => ?_)
  exact x_retv B hw ⟨q1, q2, q3, rfl⟩ (Nat.le_of_ble_eq_true rfl) (Nat.le_of_ble_eq_true rfl) dX8_init_28
theorem dX7_init_0 : decode cX7_init 0 = .ok (.aload_n 0, 1) := by decide +kernel
theorem dX7_init_1 : decode cX7_init 1 = .ok (.invokespecial 3, 3) := by decide +kernel
theorem dX7_init_4 : decode cX7_init 4 = .ok (.aload_n 0, 1) := by decide +kernel
theorem dX7_init_5 : decode cX7_init 5 = .ok (.bipush 40, 2) := by decide +kernel
theorem dX7_init_7 : decode cX7_init 7 = .ok (.newarray .int, 2) := by decide +kernel
theorem dX7_init_9 : decode cX7_init 9 = .ok (.putfield 11, 3) := by decide +kernel
theorem dX7_init_12 : decode cX7_init 12 = .ok (.aload_n 0, 1) := by decide +kernel
theorem dX7_init_13 : decode cX7_init 13 = .ok (.bipush 40, 2) := by decide +kernel
theorem dX7_init_15 : decode cX7_init 15 = .ok (.newarray .int, 2) := by decide +kernel
theorem dX7_init_17 : decode cX7_init 17 = .ok (.putfield 15, 3) := by decide +kernel
theorem dX7_init_20 : decode cX7_init 20 = .ok (.aload_n 0, 1) := by decide +kernel
theorem dX7_init_21 : decode cX7_init 21 = .ok (.bipush 40, 2) := by decide +kernel
theorem dX7_init_23 : decode cX7_init 23 = .ok (.newarray .int, 2) := by decide +kernel
theorem dX7_init_25 : decode cX7_init 25 = .ok (.putfield 18, 3) := by decide +kernel
theorem dX7_init_28 : decode cX7_init 28 = .ok (.aload_n 0, 1) := by decide +kernel
theorem dX7_init_29 : decode cX7_init 29 = .ok (.bipush 40, 2) := by decide +kernel
theorem dX7_init_31 : decode cX7_init 31 = .ok (.newarray .int, 2) := by decide +kernel
theorem dX7_init_33 : decode cX7_init 33 = .ok (.putfield 21, 3) := by decide +kernel
theorem dX7_init_36 : decode cX7_init 36 = .ok (.return_, 1) := by decide +kernel
-- Sentence()
set_option maxHeartbeats 4000000 in
set_option maxRecDepth 100000 in
theorem c_X7_init {l : Launch} {G : Gc} (qr : Nat)  : Cv l yX7_init cX7_init 1 1 4 160 G [.ref qr] [(qr, .inr (6, [.int 0, .int 0, .int 0, .null, .null, .null, .null]))] (fun (u9 : va_W) => ∃ (rkeys : Nat) (rsigns : Nat) (rnumbers : Nat) (rstack : Nat), u9 = [(qr, .inr (6, [.int 0, .int 0, .int 0, .ref rkeys, .ref rsigns, .ref rnumbers, .ref rstack])), (rkeys, eI G 40 (fun _ => 0)), (rsigns, eI G 40 (fun _ => 0)), (rnumbers, eI G 40 (fun _ => 0)), (rstack, eI G 40 (fun _ => 0))]) := by
  refine Cv.of (by decide) (Nat.le_of_ble_eq_true rfl) ?_
  intro p e s m below meth c ls A B hw hl
  have C : CallFix p m c cX7_init 1 s _ gw "LanternState$Sentence" := B.1
  have hl : lv_has ls 1 [(0, .ref qr)] := hl
  refine lv_aload_n C.1 C.2.1 dX7_init_0 rfl (lv_at hl 0 rfl) ?_
  refine x_objInit C kw319 hl.1 (Nat.le_of_ble_eq_true rfl) (Nat.le_of_ble_eq_true rfl) dX7_init_1 ?_
  refine lv_aload_n C.1 C.2.1 dX7_init_4 rfl (lv_at hl 0 rfl) ?_
  refine lv_bipush (v := 40) C.1 C.2.1 dX7_init_5 (by decide) ?_
  refine x_newa (a0 := (40, .inl (fun _ => 0))) (N := 40) C hw (atype := .int) rfl 2 rfl kw230 (fun _ => rfl) (by decide) (by decide) (Nat.le_of_ble_eq_true rfl) (Nat.le_of_ble_eq_true rfl) (Nat.le_of_ble_eq_true rfl) dX7_init_7 (fun q1 H hw => ?_)
  have hw : Wd G s A [(qr, .inr (6, [.int 0, .int 0, .int 0, .null, .null, .null, .null])), (q1, eI G 40 (fun _ => 0))] H _ := hw
  refine W.widen (k := 1) (n := 40) (Nat.le_of_ble_eq_true rfl) (Nat.le_of_ble_eq_true rfl) ?_
  refine x_putF (w' := [(qr, .inr (6, [.int 0, .int 0, .int 0, .ref q1, .null, .null, .null])), (q1, eI G 40 (fun _ => 0))]) C hw iwX7 tyX7_ok nmX7 B.2.2.2 6 rfl 0 rfl 3 (by decide) kw325 rfl rfl rfl rfl (Nat.le_of_ble_eq_true rfl) rfl dX7_init_9 (fun H locs hw => ?_)
  refine lv_aload_n C.1 C.2.1 dX7_init_12 rfl (lv_at hl 0 rfl) ?_
  refine lv_bipush (v := 40) C.1 C.2.1 dX7_init_13 (by decide) ?_
  refine x_newa (a0 := (40, .inl (fun _ => 0))) (N := 40) C hw (atype := .int) rfl 2 rfl kw230 (fun _ => rfl) (by decide) (by decide) (Nat.le_of_ble_eq_true rfl) (Nat.le_of_ble_eq_true rfl) (Nat.le_of_ble_eq_true rfl) dX7_init_15 (fun q2 H hw => ?_)
  have hw : Wd G s A [(qr, .inr (6, [.int 0, .int 0, .int 0, .ref q1, .null, .null, .null])), (q1, eI G 40 (fun _ => 0)), (q2, eI G 40 (fun _ => 0))] H _ := hw
  refine W.widen (k := 2) (n := 80) (Nat.le_of_ble_eq_true rfl) (Nat.le_of_ble_eq_true rfl) ?_
  refine x_putF (w' := [(qr, .inr (6, [.int 0, .int 0, .int 0, .ref q1, .ref q2, .null, .null])), (q1, eI G 40 (fun _ => 0)), (q2, eI G 40 (fun _ => 0))]) C hw iwX7 tyX7_ok nmX7 B.2.2.2 6 rfl 0 rfl 4 (by decide) kw326 rfl rfl rfl rfl (Nat.le_of_ble_eq_true rfl) rfl dX7_init_17 (fun H locs hw => ?_)
  refine lv_aload_n C.1 C.2.1 dX7_init_20 rfl (lv_at hl 0 rfl) ?_
  refine lv_bipush (v := 40) C.1 C.2.1 dX7_init_21 (by decide) ?_
  refine x_newa (a0 := (40, .inl (fun _ => 0))) (N := 40) C hw (atype := .int) rfl 2 rfl kw230 (fun _ => rfl) (by decide) (by decide) (Nat.le_of_ble_eq_true rfl) (Nat.le_of_ble_eq_true rfl) (Nat.le_of_ble_eq_true rfl) dX7_init_23 (fun q3 H hw => ?_)
  have hw : Wd G s A [(qr, .inr (6, [.int 0, .int 0, .int 0, .ref q1, .ref q2, .null, .null])), (q1, eI G 40 (fun _ => 0)), (q2, eI G 40 (fun _ => 0)), (q3, eI G 40 (fun _ => 0))] H _ := hw
  refine W.widen (k := 3) (n := 120) (Nat.le_of_ble_eq_true rfl) (Nat.le_of_ble_eq_true rfl) ?_
  refine x_putF (w' := [(qr, .inr (6, [.int 0, .int 0, .int 0, .ref q1, .ref q2, .ref q3, .null])), (q1, eI G 40 (fun _ => 0)), (q2, eI G 40 (fun _ => 0)), (q3, eI G 40 (fun _ => 0))]) C hw iwX7 tyX7_ok nmX7 B.2.2.2 6 rfl 0 rfl 5 (by decide) kw327 rfl rfl rfl rfl (Nat.le_of_ble_eq_true rfl) rfl dX7_init_25 (fun H locs hw => ?_)
  refine lv_aload_n C.1 C.2.1 dX7_init_28 rfl (lv_at hl 0 rfl) ?_
  refine lv_bipush (v := 40) C.1 C.2.1 dX7_init_29 (by decide) ?_
  refine x_newa (a0 := (40, .inl (fun _ => 0))) (N := 40) C hw (atype := .int) rfl 2 rfl kw230 (fun _ => rfl) (by decide) (by decide) (Nat.le_of_ble_eq_true rfl) (Nat.le_of_ble_eq_true rfl) (Nat.le_of_ble_eq_true rfl) dX7_init_31 (fun q4 H hw => ?_)
  have hw : Wd G s A [(qr, .inr (6, [.int 0, .int 0, .int 0, .ref q1, .ref q2, .ref q3, .null])), (q1, eI G 40 (fun _ => 0)), (q2, eI G 40 (fun _ => 0)), (q3, eI G 40 (fun _ => 0)), (q4, eI G 40 (fun _ => 0))] H _ := hw
  refine W.widen (k := 4) (n := 160) (Nat.le_of_ble_eq_true rfl) (Nat.le_of_ble_eq_true rfl) ?_
  refine x_putF (w' := [(qr, .inr (6, [.int 0, .int 0, .int 0, .ref q1, .ref q2, .ref q3, .ref q4])), (q1, eI G 40 (fun _ => 0)), (q2, eI G 40 (fun _ => 0)), (q3, eI G 40 (fun _ => 0)), (q4, eI G 40 (fun _ => 0))]) C hw iwX7 tyX7_ok nmX7 B.2.2.2 6 rfl 0 rfl 6 (by decide) kw328 rfl rfl rfl rfl (Nat.le_of_ble_eq_true rfl) rfl dX7_init_33 (fun H locs hw => ?_)
  exact x_retv B hw ⟨q1, q2, q3, q4, rfl⟩ (Nat.le_of_ble_eq_true rfl) (Nat.le_of_ble_eq_true rfl) dX7_init_36
theorem dX1_init_0 : decode cX1_init 0 = .ok (.aload_n 0, 1) := by decide +kernel
theorem dX1_init_1 : decode cX1_init 1 = .ok (.invokespecial 3, 3) := by decide +kernel
theorem dX1_init_4 : decode cX1_init 4 = .ok (.aload_n 0, 1) := by decide +kernel
theorem dX1_init_5 : decode cX1_init 5 = .ok (.bipush 40, 2) := by decide +kernel
theorem dX1_init_7 : decode cX1_init 7 = .ok (.newarray .int, 2) := by decide +kernel
theorem dX1_init_9 : decode cX1_init 9 = .ok (.putfield 9, 3) := by decide +kernel
theorem dX1_init_12 : decode cX1_init 12 = .ok (.aload_n 0, 1) := by decide +kernel
theorem dX1_init_13 : decode cX1_init 13 = .ok (.bipush 40, 2) := by decide +kernel
theorem dX1_init_15 : decode cX1_init 15 = .ok (.newarray .int, 2) := by decide +kernel
theorem dX1_init_17 : decode cX1_init 17 = .ok (.putfield 15, 3) := by decide +kernel
theorem dX1_init_20 : decode cX1_init 20 = .ok (.aload_n 0, 1) := by decide +kernel
theorem dX1_init_21 : decode cX1_init 21 = .ok (.bipush 40, 2) := by decide +kernel
theorem dX1_init_23 : decode cX1_init 23 = .ok (.newarray .int, 2) := by decide +kernel
theorem dX1_init_25 : decode cX1_init 25 = .ok (.putfield 18, 3) := by decide +kernel
theorem dX1_init_28 : decode cX1_init 28 = .ok (.aload_n 0, 1) := by decide +kernel
theorem dX1_init_29 : decode cX1_init 29 = .ok (.bipush 40, 2) := by decide +kernel
theorem dX1_init_31 : decode cX1_init 31 = .ok (.newarray .int, 2) := by decide +kernel
theorem dX1_init_33 : decode cX1_init 33 = .ok (.putfield 21, 3) := by decide +kernel
theorem dX1_init_36 : decode cX1_init 36 = .ok (.return_, 1) := by decide +kernel
-- Book()
set_option maxHeartbeats 4000000 in
set_option maxRecDepth 100000 in
theorem c_X1_init {l : Launch} {G : Gc} (qp : Nat)  : Cv l yX1_init cX1_init 1 1 4 160 G [.ref qp] [(qp, .inr (1, [.null, .null, .null, .null, .int 0, .int 0]))] (fun (u9 : va_W) => ∃ (pkeys : Nat) (pwhos : Nat) (pfirsts : Nat) (pseconds : Nat), u9 = [(qp, .inr (1, [.ref pkeys, .ref pwhos, .ref pfirsts, .ref pseconds, .int 0, .int 0])), (pkeys, eI G 40 (fun _ => 0)), (pwhos, eI G 40 (fun _ => 0)), (pfirsts, eI G 40 (fun _ => 0)), (pseconds, eI G 40 (fun _ => 0))]) := by
  refine Cv.of (by decide) (Nat.le_of_ble_eq_true rfl) ?_
  intro p e s m below meth c ls A B hw hl
  have C : CallFix p m c cX1_init 1 s _ gw "LanternState$Book" := B.1
  have hl : lv_has ls 1 [(0, .ref qp)] := hl
  refine lv_aload_n C.1 C.2.1 dX1_init_0 rfl (lv_at hl 0 rfl) ?_
  refine x_objInit C kw349 hl.1 (Nat.le_of_ble_eq_true rfl) (Nat.le_of_ble_eq_true rfl) dX1_init_1 ?_
  refine lv_aload_n C.1 C.2.1 dX1_init_4 rfl (lv_at hl 0 rfl) ?_
  refine lv_bipush (v := 40) C.1 C.2.1 dX1_init_5 (by decide) ?_
  refine x_newa (a0 := (40, .inl (fun _ => 0))) (N := 40) C hw (atype := .int) rfl 2 rfl kw230 (fun _ => rfl) (by decide) (by decide) (Nat.le_of_ble_eq_true rfl) (Nat.le_of_ble_eq_true rfl) (Nat.le_of_ble_eq_true rfl) dX1_init_7 (fun q1 H hw => ?_)
  have hw : Wd G s A [(qp, .inr (1, [.null, .null, .null, .null, .int 0, .int 0])), (q1, eI G 40 (fun _ => 0))] H _ := hw
  refine W.widen (k := 1) (n := 40) (Nat.le_of_ble_eq_true rfl) (Nat.le_of_ble_eq_true rfl) ?_
  refine x_putF (w' := [(qp, .inr (1, [.ref q1, .null, .null, .null, .int 0, .int 0])), (q1, eI G 40 (fun _ => 0))]) C hw iwX1 tyX1_ok nmX1 B.2.2.2 1 rfl 0 rfl 0 (by decide) kw350 rfl rfl rfl rfl (Nat.le_of_ble_eq_true rfl) rfl dX1_init_9 (fun H locs hw => ?_)
  refine lv_aload_n C.1 C.2.1 dX1_init_12 rfl (lv_at hl 0 rfl) ?_
  refine lv_bipush (v := 40) C.1 C.2.1 dX1_init_13 (by decide) ?_
  refine x_newa (a0 := (40, .inl (fun _ => 0))) (N := 40) C hw (atype := .int) rfl 2 rfl kw230 (fun _ => rfl) (by decide) (by decide) (Nat.le_of_ble_eq_true rfl) (Nat.le_of_ble_eq_true rfl) (Nat.le_of_ble_eq_true rfl) dX1_init_15 (fun q2 H hw => ?_)
  have hw : Wd G s A [(qp, .inr (1, [.ref q1, .null, .null, .null, .int 0, .int 0])), (q1, eI G 40 (fun _ => 0)), (q2, eI G 40 (fun _ => 0))] H _ := hw
  refine W.widen (k := 2) (n := 80) (Nat.le_of_ble_eq_true rfl) (Nat.le_of_ble_eq_true rfl) ?_
  refine x_putF (w' := [(qp, .inr (1, [.ref q1, .ref q2, .null, .null, .int 0, .int 0])), (q1, eI G 40 (fun _ => 0)), (q2, eI G 40 (fun _ => 0))]) C hw iwX1 tyX1_ok nmX1 B.2.2.2 1 rfl 0 rfl 1 (by decide) kw351 rfl rfl rfl rfl (Nat.le_of_ble_eq_true rfl) rfl dX1_init_17 (fun H locs hw => ?_)
  refine lv_aload_n C.1 C.2.1 dX1_init_20 rfl (lv_at hl 0 rfl) ?_
  refine lv_bipush (v := 40) C.1 C.2.1 dX1_init_21 (by decide) ?_
  refine x_newa (a0 := (40, .inl (fun _ => 0))) (N := 40) C hw (atype := .int) rfl 2 rfl kw230 (fun _ => rfl) (by decide) (by decide) (Nat.le_of_ble_eq_true rfl) (Nat.le_of_ble_eq_true rfl) (Nat.le_of_ble_eq_true rfl) dX1_init_23 (fun q3 H hw => ?_)
  have hw : Wd G s A [(qp, .inr (1, [.ref q1, .ref q2, .null, .null, .int 0, .int 0])), (q1, eI G 40 (fun _ => 0)), (q2, eI G 40 (fun _ => 0)), (q3, eI G 40 (fun _ => 0))] H _ := hw
  refine W.widen (k := 3) (n := 120) (Nat.le_of_ble_eq_true rfl) (Nat.le_of_ble_eq_true rfl) ?_
  refine x_putF (w' := [(qp, .inr (1, [.ref q1, .ref q2, .ref q3, .null, .int 0, .int 0])), (q1, eI G 40 (fun _ => 0)), (q2, eI G 40 (fun _ => 0)), (q3, eI G 40 (fun _ => 0))]) C hw iwX1 tyX1_ok nmX1 B.2.2.2 1 rfl 0 rfl 2 (by decide) kw352 rfl rfl rfl rfl (Nat.le_of_ble_eq_true rfl) rfl dX1_init_25 (fun H locs hw => ?_)
  refine lv_aload_n C.1 C.2.1 dX1_init_28 rfl (lv_at hl 0 rfl) ?_
  refine lv_bipush (v := 40) C.1 C.2.1 dX1_init_29 (by decide) ?_
  refine x_newa (a0 := (40, .inl (fun _ => 0))) (N := 40) C hw (atype := .int) rfl 2 rfl kw230 (fun _ => rfl) (by decide) (by decide) (Nat.le_of_ble_eq_true rfl) (Nat.le_of_ble_eq_true rfl) (Nat.le_of_ble_eq_true rfl) dX1_init_31 (fun q4 H hw => ?_)
  have hw : Wd G s A [(qp, .inr (1, [.ref q1, .ref q2, .ref q3, .null, .int 0, .int 0])), (q1, eI G 40 (fun _ => 0)), (q2, eI G 40 (fun _ => 0)), (q3, eI G 40 (fun _ => 0)), (q4, eI G 40 (fun _ => 0))] H _ := hw
  refine W.widen (k := 4) (n := 160) (Nat.le_of_ble_eq_true rfl) (Nat.le_of_ble_eq_true rfl) ?_
  refine x_putF (w' := [(qp, .inr (1, [.ref q1, .ref q2, .ref q3, .ref q4, .int 0, .int 0])), (q1, eI G 40 (fun _ => 0)), (q2, eI G 40 (fun _ => 0)), (q3, eI G 40 (fun _ => 0)), (q4, eI G 40 (fun _ => 0))]) C hw iwX1 tyX1_ok nmX1 B.2.2.2 1 rfl 0 rfl 3 (by decide) kw353 rfl rfl rfl rfl (Nat.le_of_ble_eq_true rfl) rfl dX1_init_33 (fun H locs hw => ?_)
  exact x_retv B hw ⟨q1, q2, q3, q4, rfl⟩ (Nat.le_of_ble_eq_true rfl) (Nat.le_of_ble_eq_true rfl) dX1_init_36
theorem dX6_init_0 : decode cX6_init 0 = .ok (.aload_n 0, 1) := by decide +kernel
theorem dX6_init_1 : decode cX6_init 1 = .ok (.invokespecial 3, 3) := by decide +kernel
theorem dX6_init_4 : decode cX6_init 4 = .ok (.aload_n 0, 1) := by decide +kernel
theorem dX6_init_5 : decode cX6_init 5 = .ok (.bipush 6, 2) := by decide +kernel
theorem dX6_init_7 : decode cX6_init 7 = .ok (.newarray .int, 2) := by decide +kernel
theorem dX6_init_9 : decode cX6_init 9 = .ok (.putfield 9, 3) := by decide +kernel
theorem dX6_init_12 : decode cX6_init 12 = .ok (.aload_n 0, 1) := by decide +kernel
theorem dX6_init_13 : decode cX6_init 13 = .ok (.bipush 6, 2) := by decide +kernel
theorem dX6_init_15 : decode cX6_init 15 = .ok (.newarray .int, 2) := by decide +kernel
theorem dX6_init_17 : decode cX6_init 17 = .ok (.putfield 15, 3) := by decide +kernel
theorem dX6_init_20 : decode cX6_init 20 = .ok (.return_, 1) := by decide +kernel
-- Search()
set_option maxHeartbeats 4000000 in
set_option maxRecDepth 100000 in
theorem c_X6_init {l : Launch} {G : Gc} (qf : Nat)  : Cv l yX6_init cX6_init 1 1 2 12 G [.ref qf] [(qf, .inr (5, [.null, .int 0, .int 0, .null, .int 0, .int 0, .int 0]))] (fun (u9 : va_W) => ∃ (fbestPath : Nat) (fpath : Nat), u9 = [(qf, .inr (5, [.ref fbestPath, .int 0, .int 0, .ref fpath, .int 0, .int 0, .int 0])), (fbestPath, eI G 6 (fun _ => 0)), (fpath, eI G 6 (fun _ => 0))]) := by
  refine Cv.of (by decide) (Nat.le_of_ble_eq_true rfl) ?_
  intro p e s m below meth c ls A B hw hl
  have C : CallFix p m c cX6_init 1 s _ gw "LanternState$Search" := B.1
  have hl : lv_has ls 1 [(0, .ref qf)] := hl
  refine lv_aload_n C.1 C.2.1 dX6_init_0 rfl (lv_at hl 0 rfl) ?_
  refine x_objInit C kw376 hl.1 (Nat.le_of_ble_eq_true rfl) (Nat.le_of_ble_eq_true rfl) dX6_init_1 ?_
  refine lv_aload_n C.1 C.2.1 dX6_init_4 rfl (lv_at hl 0 rfl) ?_
  refine lv_bipush (v := 6) C.1 C.2.1 dX6_init_5 (by decide) ?_
  refine x_newa (a0 := (6, .inl (fun _ => 0))) (N := 6) C hw (atype := .int) rfl 2 rfl kw230 (fun _ => rfl) (by decide) (by decide) (Nat.le_of_ble_eq_true rfl) (Nat.le_of_ble_eq_true rfl) (Nat.le_of_ble_eq_true rfl) dX6_init_7 (fun q1 H hw => ?_)
  have hw : Wd G s A [(qf, .inr (5, [.null, .int 0, .int 0, .null, .int 0, .int 0, .int 0])), (q1, eI G 6 (fun _ => 0))] H _ := hw
  refine W.widen (k := 1) (n := 6) (Nat.le_of_ble_eq_true rfl) (Nat.le_of_ble_eq_true rfl) ?_
  refine x_putF (w' := [(qf, .inr (5, [.ref q1, .int 0, .int 0, .null, .int 0, .int 0, .int 0])), (q1, eI G 6 (fun _ => 0))]) C hw iwX6 tyX6_ok nmX6 B.2.2.2 5 rfl 0 rfl 0 (by decide) kw377 rfl rfl rfl rfl (Nat.le_of_ble_eq_true rfl) rfl dX6_init_9 (fun H locs hw => ?_)
  refine lv_aload_n C.1 C.2.1 dX6_init_12 rfl (lv_at hl 0 rfl) ?_
  refine lv_bipush (v := 6) C.1 C.2.1 dX6_init_13 (by decide) ?_
  refine x_newa (a0 := (6, .inl (fun _ => 0))) (N := 6) C hw (atype := .int) rfl 2 rfl kw230 (fun _ => rfl) (by decide) (by decide) (Nat.le_of_ble_eq_true rfl) (Nat.le_of_ble_eq_true rfl) (Nat.le_of_ble_eq_true rfl) dX6_init_15 (fun q2 H hw => ?_)
  have hw : Wd G s A [(qf, .inr (5, [.ref q1, .int 0, .int 0, .null, .int 0, .int 0, .int 0])), (q1, eI G 6 (fun _ => 0)), (q2, eI G 6 (fun _ => 0))] H _ := hw
  refine W.widen (k := 2) (n := 12) (Nat.le_of_ble_eq_true rfl) (Nat.le_of_ble_eq_true rfl) ?_
  refine x_putF (w' := [(qf, .inr (5, [.ref q1, .int 0, .int 0, .ref q2, .int 0, .int 0, .int 0])), (q1, eI G 6 (fun _ => 0)), (q2, eI G 6 (fun _ => 0))]) C hw iwX6 tyX6_ok nmX6 B.2.2.2 5 rfl 0 rfl 3 (by decide) kw382 rfl rfl rfl rfl (Nat.le_of_ble_eq_true rfl) rfl dX6_init_17 (fun H locs hw => ?_)
  exact x_retv B hw ⟨q1, q2, rfl⟩ (Nat.le_of_ble_eq_true rfl) (Nat.le_of_ble_eq_true rfl) dX6_init_20
theorem dX0_init_0 : decode cX0_init 0 = .ok (.aload_n 0, 1) := by decide +kernel
theorem dX0_init_1 : decode cX0_init 1 = .ok (.invokespecial 3, 3) := by decide +kernel
theorem dX0_init_4 : decode cX0_init 4 = .ok (.aload_n 0, 1) := by decide +kernel
theorem dX0_init_5 : decode cX0_init 5 = .ok (.bipush 40, 2) := by decide +kernel
theorem dX0_init_7 : decode cX0_init 7 = .ok (.newarray .char, 2) := by decide +kernel
theorem dX0_init_9 : decode cX0_init 9 = .ok (.putfield 11, 3) := by decide +kernel
theorem dX0_init_12 : decode cX0_init 12 = .ok (.return_, 1) := by decide +kernel
-- Bill()
set_option maxHeartbeats 4000000 in
set_option maxRecDepth 100000 in
theorem c_X0_init {l : Launch} {G : Gc} (qn : Nat)  : Cv l yX0_init cX0_init 1 1 1 40 G [.ref qn] [(qn, .inr (0, [.null, .int 0]))] (fun (u9 : va_W) => ∃ (nletters : Nat), u9 = [(qn, .inr (0, [.ref nletters, .int 0])), (nletters, eC G 40 (fun _ => 0))]) := by
  refine Cv.of (by decide) (Nat.le_of_ble_eq_true rfl) ?_
  intro p e s m below meth c ls A B hw hl
  have C : CallFix p m c cX0_init 1 s _ gw "LanternState$Bill" := B.1
  have hl : lv_has ls 1 [(0, .ref qn)] := hl
  refine lv_aload_n C.1 C.2.1 dX0_init_0 rfl (lv_at hl 0 rfl) ?_
  refine x_objInit C kw406 hl.1 (Nat.le_of_ble_eq_true rfl) (Nat.le_of_ble_eq_true rfl) dX0_init_1 ?_
  refine lv_aload_n C.1 C.2.1 dX0_init_4 rfl (lv_at hl 0 rfl) ?_
  refine lv_bipush (v := 40) C.1 C.2.1 dX0_init_5 (by decide) ?_
  refine x_newa (a0 := (40, .inl (fun _ => 0))) (N := 40) C hw (atype := .char) rfl 1 rfl kw416 (fun _ => rfl) (by decide) (by decide) (Nat.le_of_ble_eq_true rfl) (Nat.le_of_ble_eq_true rfl) (Nat.le_of_ble_eq_true rfl) dX0_init_7 (fun q1 H hw => ?_)
  have hw : Wd G s A [(qn, .inr (0, [.null, .int 0])), (q1, eC G 40 (fun _ => 0))] H _ := hw
  refine W.widen (k := 1) (n := 40) (Nat.le_of_ble_eq_true rfl) (Nat.le_of_ble_eq_true rfl) ?_
  refine x_putF (w' := [(qn, .inr (0, [.ref q1, .int 0])), (q1, eC G 40 (fun _ => 0))]) C hw iwX0 tyX0_ok nmX0 B.2.2.2 0 rfl 0 rfl 0 (by decide) kw407 rfl rfl rfl rfl (Nat.le_of_ble_eq_true rfl) rfl dX0_init_9 (fun H locs hw => ?_)
  exact x_retv B hw ⟨q1, rfl⟩ (Nat.le_of_ble_eq_true rfl) (Nat.le_of_ble_eq_true rfl) dX0_init_12
theorem dX3_init_0 : decode cX3_init 0 = .ok (.aload_n 0, 1) := by decide +kernel
theorem dX3_init_1 : decode cX3_init 1 = .ok (.invokespecial 1, 3) := by decide +kernel
theorem dX3_init_4 : decode cX3_init 4 = .ok (.aload_n 0, 1) := by decide +kernel
theorem dX3_init_5 : decode cX3_init 5 = .ok (.new 7, 3) := by decide +kernel
theorem dX3_init_8 : decode cX3_init 8 = .ok (.dup, 1) := by decide +kernel
theorem dX3_init_9 : decode cX3_init 9 = .ok (.invokespecial 9, 3) := by decide +kernel
theorem mwX5_init : MwI yX5_init cX5_init 1 0 := ⟨⟨kw145, kw7, by decide +kernel⟩, rfl, kw144⟩
theorem dX3_init_12 : decode cX3_init 12 = .ok (.putfield 10, 3) := by decide +kernel
theorem dX3_init_15 : decode cX3_init 15 = .ok (.aload_n 0, 1) := by decide +kernel
theorem dX3_init_16 : decode cX3_init 16 = .ok (.new 16, 3) := by decide +kernel
theorem dX3_init_19 : decode cX3_init 19 = .ok (.dup, 1) := by decide +kernel
theorem dX3_init_20 : decode cX3_init 20 = .ok (.invokespecial 18, 3) := by decide +kernel
theorem mwX8_init : MwI yX8_init cX8_init 1 0 := ⟨⟨kw235, kw8, by decide +kernel⟩, rfl, kw234⟩
theorem dX3_init_23 : decode cX3_init 23 = .ok (.putfield 19, 3) := by decide +kernel
theorem dX3_init_26 : decode cX3_init 26 = .ok (.aload_n 0, 1) := by decide +kernel
theorem dX3_init_27 : decode cX3_init 27 = .ok (.new 23, 3) := by decide +kernel
theorem dX3_init_30 : decode cX3_init 30 = .ok (.dup, 1) := by decide +kernel
theorem dX3_init_31 : decode cX3_init 31 = .ok (.invokespecial 25, 3) := by decide +kernel
theorem mwX7_init : MwI yX7_init cX7_init 1 0 := ⟨⟨kw318, kw10, by decide +kernel⟩, rfl, kw317⟩
theorem dX3_init_34 : decode cX3_init 34 = .ok (.putfield 26, 3) := by decide +kernel
theorem dX3_init_37 : decode cX3_init 37 = .ok (.return_, 1) := by decide +kernel
-- Image()
set_option maxHeartbeats 4000000 in
set_option maxRecDepth 100000 in
theorem c_X3_init {l : Launch} {G : Gc} (qi : Nat)  : Cv l yX3_init cX3_init 1 2 19 280 G [.ref qi] [(qi, .inr (3, [.int 0, .null, .null, .null]))] (fun (u9 : va_W) => ∃ (is : Nat) (isslideNames : Nat) (ispictures : Nat) (isheats : Nat) (isafter : Nat) (ishearerNames : Nat) (isneeds : Nat) (islikes : Nat) (ishates : Nat) (isnear : Nat) (ia : Nat) (iapictures : Nat) (iashown : Nat) (iasighed : Nat) (ir : Nat) (irkeys : Nat) (irsigns : Nat) (irnumbers : Nat) (irstack : Nat), u9 = [(qi, .inr (3, [.int 0, .ref is, .ref ia, .ref ir])), (is, .inr (4, [.int 0, .int 0, .int 0, .int 0, .int 1, .int 0, .int 40, .int 0, .int 0, .ref isslideNames, .ref ispictures, .ref isheats, .ref isafter, .ref ishearerNames, .ref isneeds, .ref islikes, .ref ishates, .ref isnear])), (isslideNames, eJ G 6 (fun _ => 0)), (ispictures, eI G 6 (fun _ => 0)), (isheats, eI G 6 (fun _ => 0)), (isafter, eI G 6 (fun _ => 0)), (ishearerNames, eJ G 8 (fun _ => 0)), (isneeds, eI G 8 (fun _ => 0)), (islikes, eI G 8 (fun _ => 0)), (ishates, eI G 8 (fun _ => 0)), (isnear, eI G 8 (fun _ => 0)), (ia, .inr (7, [.int 0, .int 0, .int 0, .int 0, .int 0, .int 0, .int 0, .int 0, .ref iapictures, .ref iashown, .ref iasighed])), (iapictures, eI G 6 (fun _ => 0)), (iashown, eI G 6 (fun _ => 0)), (iasighed, eI G 8 (fun _ => 0)), (ir, .inr (6, [.int 0, .int 0, .int 0, .ref irkeys, .ref irsigns, .ref irnumbers, .ref irstack])), (irkeys, eI G 40 (fun _ => 0)), (irsigns, eI G 40 (fun _ => 0)), (irnumbers, eI G 40 (fun _ => 0)), (irstack, eI G 40 (fun _ => 0))]) := by
  refine Cv.of (by decide) (Nat.le_of_ble_eq_true rfl) ?_
  intro p e s m below meth c ls A B hw hl
  have C : CallFix p m c cX3_init 1 s _ gw "LanternState$Image" := B.1
  have hl : lv_has ls 1 [(0, .ref qi)] := hl
  refine lv_aload_n C.1 C.2.1 dX3_init_0 rfl (lv_at hl 0 rfl) ?_
  refine x_objInit C kw423 hl.1 (Nat.le_of_ble_eq_true rfl) (Nat.le_of_ble_eq_true rfl) dX3_init_1 ?_
  refine lv_aload_n C.1 C.2.1 dX3_init_4 rfl (lv_at hl 0 rfl) ?_
  refine x_new (fs := [.int 0, .int 0, .int 0, .int 0, .int 0, .int 0, .int 0, .int 0, .int 0, .null, .null, .null, .null, .null, .null, .null, .null, .null]) C hw iwX5 tyX5_ok 4 rfl kw424 kw142 kw7 (by decide +kernel) (Nat.le_of_ble_eq_true rfl) (Nat.le_of_ble_eq_true rfl) dX3_init_5 (fun q1 H hw => ?_)
  have hw : Wd G s A [(qi, .inr (3, [.int 0, .null, .null, .null])), (q1, .inr (4, [.int 0, .int 0, .int 0, .int 0, .int 0, .int 0, .int 0, .int 0, .int 0, .null, .null, .null, .null, .null, .null, .null, .null, .null]))] H _ := hw
  refine W.widen (k := 1) (n := 18) (Nat.le_of_ble_eq_true rfl) (Nat.le_of_ble_eq_true rfl) ?_
  refine lv_dup C.1 C.2.1 dX3_init_8 rfl ?_
  refine x_callvIN (As := []) (rest := [.ref q1, .ref qi]) (wr := [(qi, .inr (3, [.int 0, .null, .null, .null]))]) C hw (c_X5_init q1) mwX5_init (nst8 hw.1) [1] [0] rfl rfl rfl rfl (by decide) rfl hl.1 rfl (Nat.le_of_ble_eq_true rfl) ⟨(Nat.le_of_ble_eq_true rfl), (Nat.le_of_ble_eq_true rfl)⟩ ⟨(Nat.le_of_ble_eq_true rfl), (Nat.le_of_ble_eq_true rfl)⟩ dX3_init_9 (fun  u9 H locs hp9 hw => ?_)
  obtain ⟨sslideNames_2, spictures_3, sheats_4, safter_5, shearerNames_6, sneeds_7, slikes_8, shates_9, snear_10, rfl⟩ := hp9
  have hw : Wd G s A [(qi, .inr (3, [.int 0, .null, .null, .null])), (q1, .inr (4, [.int 0, .int 0, .int 0, .int 0, .int 1, .int 0, .int 40, .int 0, .int 0, .ref sslideNames_2, .ref spictures_3, .ref sheats_4, .ref safter_5, .ref shearerNames_6, .ref sneeds_7, .ref slikes_8, .ref shates_9, .ref snear_10])), (sslideNames_2, eJ G 6 (fun _ => 0)), (spictures_3, eI G 6 (fun _ => 0)), (sheats_4, eI G 6 (fun _ => 0)), (safter_5, eI G 6 (fun _ => 0)), (shearerNames_6, eJ G 8 (fun _ => 0)), (sneeds_7, eI G 8 (fun _ => 0)), (slikes_8, eI G 8 (fun _ => 0)), (shates_9, eI G 8 (fun _ => 0)), (snear_10, eI G 8 (fun _ => 0))] H _ := hw
  refine W.widen (k := 10) (n := 82) (Nat.le_of_ble_eq_true rfl) (Nat.le_of_ble_eq_true rfl) ?_
  refine x_putF (w' := [(qi, .inr (3, [.int 0, .ref q1, .null, .null])), (q1, .inr (4, [.int 0, .int 0, .int 0, .int 0, .int 1, .int 0, .int 40, .int 0, .int 0, .ref sslideNames_2, .ref spictures_3, .ref sheats_4, .ref safter_5, .ref shearerNames_6, .ref sneeds_7, .ref slikes_8, .ref shates_9, .ref snear_10])), (sslideNames_2, eJ G 6 (fun _ => 0)), (spictures_3, eI G 6 (fun _ => 0)), (sheats_4, eI G 6 (fun _ => 0)), (safter_5, eI G 6 (fun _ => 0)), (shearerNames_6, eJ G 8 (fun _ => 0)), (sneeds_7, eI G 8 (fun _ => 0)), (slikes_8, eI G 8 (fun _ => 0)), (shates_9, eI G 8 (fun _ => 0)), (snear_10, eI G 8 (fun _ => 0))]) C hw iwX3 tyX3_ok nmX3 B.2.2.2 3 rfl 0 rfl 1 (by decide) kw431 rfl rfl rfl rfl (Nat.le_of_ble_eq_true rfl) rfl dX3_init_12 (fun H locs hw => ?_)
  refine lv_aload_n C.1 C.2.1 dX3_init_15 rfl (lv_at hl 0 rfl) ?_
  refine x_new (fs := [.int 0, .int 0, .int 0, .int 0, .int 0, .int 0, .int 0, .int 0, .null, .null, .null]) C hw iwX8 tyX8_ok 7 rfl kw426 kw232 kw8 (by decide +kernel) (Nat.le_of_ble_eq_true rfl) (Nat.le_of_ble_eq_true rfl) dX3_init_16 (fun q11 H hw => ?_)
  have hw : Wd G s A [(qi, .inr (3, [.int 0, .ref q1, .null, .null])), (q1, .inr (4, [.int 0, .int 0, .int 0, .int 0, .int 1, .int 0, .int 40, .int 0, .int 0, .ref sslideNames_2, .ref spictures_3, .ref sheats_4, .ref safter_5, .ref shearerNames_6, .ref sneeds_7, .ref slikes_8, .ref shates_9, .ref snear_10])), (sslideNames_2, eJ G 6 (fun _ => 0)), (spictures_3, eI G 6 (fun _ => 0)), (sheats_4, eI G 6 (fun _ => 0)), (safter_5, eI G 6 (fun _ => 0)), (shearerNames_6, eJ G 8 (fun _ => 0)), (sneeds_7, eI G 8 (fun _ => 0)), (slikes_8, eI G 8 (fun _ => 0)), (shates_9, eI G 8 (fun _ => 0)), (snear_10, eI G 8 (fun _ => 0)), (q11, .inr (7, [.int 0, .int 0, .int 0, .int 0, .int 0, .int 0, .int 0, .int 0, .null, .null, .null]))] H _ := hw
  refine W.widen (k := 11) (n := 93) (Nat.le_of_ble_eq_true rfl) (Nat.le_of_ble_eq_true rfl) ?_
  refine lv_dup C.1 C.2.1 dX3_init_19 rfl ?_
  refine x_callvIN (As := []) (rest := [.ref q11, .ref qi]) (wr := [(qi, .inr (3, [.int 0, .ref q1, .null, .null])), (q1, .inr (4, [.int 0, .int 0, .int 0, .int 0, .int 1, .int 0, .int 40, .int 0, .int 0, .ref sslideNames_2, .ref spictures_3, .ref sheats_4, .ref safter_5, .ref shearerNames_6, .ref sneeds_7, .ref slikes_8, .ref shates_9, .ref snear_10])), (sslideNames_2, eJ G 6 (fun _ => 0)), (spictures_3, eI G 6 (fun _ => 0)), (sheats_4, eI G 6 (fun _ => 0)), (safter_5, eI G 6 (fun _ => 0)), (shearerNames_6, eJ G 8 (fun _ => 0)), (sneeds_7, eI G 8 (fun _ => 0)), (slikes_8, eI G 8 (fun _ => 0)), (shates_9, eI G 8 (fun _ => 0)), (snear_10, eI G 8 (fun _ => 0))]) C hw (c_X8_init q11) mwX8_init (nst9 hw.1) [11] [0, 1, 2, 3, 4, 5, 6, 7, 8, 9, 10] rfl rfl rfl rfl (by decide) rfl hl.1 rfl (Nat.le_of_ble_eq_true rfl) ⟨(Nat.le_of_ble_eq_true rfl), (Nat.le_of_ble_eq_true rfl)⟩ ⟨(Nat.le_of_ble_eq_true rfl), (Nat.le_of_ble_eq_true rfl)⟩ dX3_init_20 (fun  u9 H locs hp9 hw => ?_)
  obtain ⟨apictures_12, ashown_13, asighed_14, rfl⟩ := hp9
  have hw : Wd G s A [(qi, .inr (3, [.int 0, .ref q1, .null, .null])), (q1, .inr (4, [.int 0, .int 0, .int 0, .int 0, .int 1, .int 0, .int 40, .int 0, .int 0, .ref sslideNames_2, .ref spictures_3, .ref sheats_4, .ref safter_5, .ref shearerNames_6, .ref sneeds_7, .ref slikes_8, .ref shates_9, .ref snear_10])), (sslideNames_2, eJ G 6 (fun _ => 0)), (spictures_3, eI G 6 (fun _ => 0)), (sheats_4, eI G 6 (fun _ => 0)), (safter_5, eI G 6 (fun _ => 0)), (shearerNames_6, eJ G 8 (fun _ => 0)), (sneeds_7, eI G 8 (fun _ => 0)), (slikes_8, eI G 8 (fun _ => 0)), (shates_9, eI G 8 (fun _ => 0)), (snear_10, eI G 8 (fun _ => 0)), (q11, .inr (7, [.int 0, .int 0, .int 0, .int 0, .int 0, .int 0, .int 0, .int 0, .ref apictures_12, .ref ashown_13, .ref asighed_14])), (apictures_12, eI G 6 (fun _ => 0)), (ashown_13, eI G 6 (fun _ => 0)), (asighed_14, eI G 8 (fun _ => 0))] H _ := hw
  refine W.widen (k := 14) (n := 113) (Nat.le_of_ble_eq_true rfl) (Nat.le_of_ble_eq_true rfl) ?_
  refine x_putF (w' := [(qi, .inr (3, [.int 0, .ref q1, .ref q11, .null])), (q1, .inr (4, [.int 0, .int 0, .int 0, .int 0, .int 1, .int 0, .int 40, .int 0, .int 0, .ref sslideNames_2, .ref spictures_3, .ref sheats_4, .ref safter_5, .ref shearerNames_6, .ref sneeds_7, .ref slikes_8, .ref shates_9, .ref snear_10])), (sslideNames_2, eJ G 6 (fun _ => 0)), (spictures_3, eI G 6 (fun _ => 0)), (sheats_4, eI G 6 (fun _ => 0)), (safter_5, eI G 6 (fun _ => 0)), (shearerNames_6, eJ G 8 (fun _ => 0)), (sneeds_7, eI G 8 (fun _ => 0)), (slikes_8, eI G 8 (fun _ => 0)), (shates_9, eI G 8 (fun _ => 0)), (snear_10, eI G 8 (fun _ => 0)), (q11, .inr (7, [.int 0, .int 0, .int 0, .int 0, .int 0, .int 0, .int 0, .int 0, .ref apictures_12, .ref ashown_13, .ref asighed_14])), (apictures_12, eI G 6 (fun _ => 0)), (ashown_13, eI G 6 (fun _ => 0)), (asighed_14, eI G 8 (fun _ => 0))]) C hw iwX3 tyX3_ok nmX3 B.2.2.2 3 rfl 0 rfl 2 (by decide) kw433 rfl rfl rfl rfl (Nat.le_of_ble_eq_true rfl) rfl dX3_init_23 (fun H locs hw => ?_)
  refine lv_aload_n C.1 C.2.1 dX3_init_26 rfl (lv_at hl 0 rfl) ?_
  refine x_new (fs := [.int 0, .int 0, .int 0, .null, .null, .null, .null]) C hw iwX7 tyX7_ok 6 rfl kw428 kw315 kw10 (by decide +kernel) (Nat.le_of_ble_eq_true rfl) (Nat.le_of_ble_eq_true rfl) dX3_init_27 (fun q15 H hw => ?_)
  have hw : Wd G s A [(qi, .inr (3, [.int 0, .ref q1, .ref q11, .null])), (q1, .inr (4, [.int 0, .int 0, .int 0, .int 0, .int 1, .int 0, .int 40, .int 0, .int 0, .ref sslideNames_2, .ref spictures_3, .ref sheats_4, .ref safter_5, .ref shearerNames_6, .ref sneeds_7, .ref slikes_8, .ref shates_9, .ref snear_10])), (sslideNames_2, eJ G 6 (fun _ => 0)), (spictures_3, eI G 6 (fun _ => 0)), (sheats_4, eI G 6 (fun _ => 0)), (safter_5, eI G 6 (fun _ => 0)), (shearerNames_6, eJ G 8 (fun _ => 0)), (sneeds_7, eI G 8 (fun _ => 0)), (slikes_8, eI G 8 (fun _ => 0)), (shates_9, eI G 8 (fun _ => 0)), (snear_10, eI G 8 (fun _ => 0)), (q11, .inr (7, [.int 0, .int 0, .int 0, .int 0, .int 0, .int 0, .int 0, .int 0, .ref apictures_12, .ref ashown_13, .ref asighed_14])), (apictures_12, eI G 6 (fun _ => 0)), (ashown_13, eI G 6 (fun _ => 0)), (asighed_14, eI G 8 (fun _ => 0)), (q15, .inr (6, [.int 0, .int 0, .int 0, .null, .null, .null, .null]))] H _ := hw
  refine W.widen (k := 15) (n := 120) (Nat.le_of_ble_eq_true rfl) (Nat.le_of_ble_eq_true rfl) ?_
  refine lv_dup C.1 C.2.1 dX3_init_30 rfl ?_
  refine x_callvIN (As := []) (rest := [.ref q15, .ref qi]) (wr := [(qi, .inr (3, [.int 0, .ref q1, .ref q11, .null])), (q1, .inr (4, [.int 0, .int 0, .int 0, .int 0, .int 1, .int 0, .int 40, .int 0, .int 0, .ref sslideNames_2, .ref spictures_3, .ref sheats_4, .ref safter_5, .ref shearerNames_6, .ref sneeds_7, .ref slikes_8, .ref shates_9, .ref snear_10])), (sslideNames_2, eJ G 6 (fun _ => 0)), (spictures_3, eI G 6 (fun _ => 0)), (sheats_4, eI G 6 (fun _ => 0)), (safter_5, eI G 6 (fun _ => 0)), (shearerNames_6, eJ G 8 (fun _ => 0)), (sneeds_7, eI G 8 (fun _ => 0)), (slikes_8, eI G 8 (fun _ => 0)), (shates_9, eI G 8 (fun _ => 0)), (snear_10, eI G 8 (fun _ => 0)), (q11, .inr (7, [.int 0, .int 0, .int 0, .int 0, .int 0, .int 0, .int 0, .int 0, .ref apictures_12, .ref ashown_13, .ref asighed_14])), (apictures_12, eI G 6 (fun _ => 0)), (ashown_13, eI G 6 (fun _ => 0)), (asighed_14, eI G 8 (fun _ => 0))]) C hw (c_X7_init q15) mwX7_init (nst10 hw.1) [15] [0, 1, 2, 3, 4, 5, 6, 7, 8, 9, 10, 11, 12, 13, 14] rfl rfl rfl rfl (by decide) rfl hl.1 rfl (Nat.le_of_ble_eq_true rfl) ⟨(Nat.le_of_ble_eq_true rfl), (Nat.le_of_ble_eq_true rfl)⟩ ⟨(Nat.le_of_ble_eq_true rfl), (Nat.le_of_ble_eq_true rfl)⟩ dX3_init_31 (fun  u9 H locs hp9 hw => ?_)
  obtain ⟨rkeys_16, rsigns_17, rnumbers_18, rstack_19, rfl⟩ := hp9
  have hw : Wd G s A [(qi, .inr (3, [.int 0, .ref q1, .ref q11, .null])), (q1, .inr (4, [.int 0, .int 0, .int 0, .int 0, .int 1, .int 0, .int 40, .int 0, .int 0, .ref sslideNames_2, .ref spictures_3, .ref sheats_4, .ref safter_5, .ref shearerNames_6, .ref sneeds_7, .ref slikes_8, .ref shates_9, .ref snear_10])), (sslideNames_2, eJ G 6 (fun _ => 0)), (spictures_3, eI G 6 (fun _ => 0)), (sheats_4, eI G 6 (fun _ => 0)), (safter_5, eI G 6 (fun _ => 0)), (shearerNames_6, eJ G 8 (fun _ => 0)), (sneeds_7, eI G 8 (fun _ => 0)), (slikes_8, eI G 8 (fun _ => 0)), (shates_9, eI G 8 (fun _ => 0)), (snear_10, eI G 8 (fun _ => 0)), (q11, .inr (7, [.int 0, .int 0, .int 0, .int 0, .int 0, .int 0, .int 0, .int 0, .ref apictures_12, .ref ashown_13, .ref asighed_14])), (apictures_12, eI G 6 (fun _ => 0)), (ashown_13, eI G 6 (fun _ => 0)), (asighed_14, eI G 8 (fun _ => 0)), (q15, .inr (6, [.int 0, .int 0, .int 0, .ref rkeys_16, .ref rsigns_17, .ref rnumbers_18, .ref rstack_19])), (rkeys_16, eI G 40 (fun _ => 0)), (rsigns_17, eI G 40 (fun _ => 0)), (rnumbers_18, eI G 40 (fun _ => 0)), (rstack_19, eI G 40 (fun _ => 0))] H _ := hw
  refine W.widen (k := 19) (n := 280) (Nat.le_of_ble_eq_true rfl) (Nat.le_of_ble_eq_true rfl) ?_
  refine x_putF (w' := [(qi, .inr (3, [.int 0, .ref q1, .ref q11, .ref q15])), (q1, .inr (4, [.int 0, .int 0, .int 0, .int 0, .int 1, .int 0, .int 40, .int 0, .int 0, .ref sslideNames_2, .ref spictures_3, .ref sheats_4, .ref safter_5, .ref shearerNames_6, .ref sneeds_7, .ref slikes_8, .ref shates_9, .ref snear_10])), (sslideNames_2, eJ G 6 (fun _ => 0)), (spictures_3, eI G 6 (fun _ => 0)), (sheats_4, eI G 6 (fun _ => 0)), (safter_5, eI G 6 (fun _ => 0)), (shearerNames_6, eJ G 8 (fun _ => 0)), (sneeds_7, eI G 8 (fun _ => 0)), (slikes_8, eI G 8 (fun _ => 0)), (shates_9, eI G 8 (fun _ => 0)), (snear_10, eI G 8 (fun _ => 0)), (q11, .inr (7, [.int 0, .int 0, .int 0, .int 0, .int 0, .int 0, .int 0, .int 0, .ref apictures_12, .ref ashown_13, .ref asighed_14])), (apictures_12, eI G 6 (fun _ => 0)), (ashown_13, eI G 6 (fun _ => 0)), (asighed_14, eI G 8 (fun _ => 0)), (q15, .inr (6, [.int 0, .int 0, .int 0, .ref rkeys_16, .ref rsigns_17, .ref rnumbers_18, .ref rstack_19])), (rkeys_16, eI G 40 (fun _ => 0)), (rsigns_17, eI G 40 (fun _ => 0)), (rnumbers_18, eI G 40 (fun _ => 0)), (rstack_19, eI G 40 (fun _ => 0))]) C hw iwX3 tyX3_ok nmX3 B.2.2.2 3 rfl 0 rfl 3 (by decide) kw435 rfl rfl rfl rfl (Nat.le_of_ble_eq_true rfl) rfl dX3_init_34 (fun H locs hw => ?_)
  exact x_retv B hw ⟨q1, sslideNames_2, spictures_3, sheats_4, safter_5, shearerNames_6, sneeds_7, slikes_8, shates_9, snear_10, q11, apictures_12, ashown_13, asighed_14, q15, rkeys_16, rsigns_17, rnumbers_18, rstack_19, rfl⟩ (Nat.le_of_ble_eq_true rfl) (Nat.le_of_ble_eq_true rfl) dX3_init_37
end
section
theorem dJ3_checkIndex_8e157_0 : decode cJ3_checkIndex_8e157 0 = .ok (.iload_n 0, 1) := by decide +kernel
theorem dJ3_checkIndex_8e157_1 : decode cJ3_checkIndex_8e157 1 = .ok (.ifCond .lt 8, 3) := by decide +kernel
theorem dJ3_checkIndex_8e157_4 : decode cJ3_checkIndex_8e157 4 = .ok (.iload_n 0, 1) := by decide +kernel
theorem dJ3_checkIndex_8e157_5 : decode cJ3_checkIndex_8e157 5 = .ok (.iload_n 1, 1) := by decide +kernel
theorem dJ3_checkIndex_8e157_6 : decode cJ3_checkIndex_8e157 6 = .ok (.if_icmp .lt 10, 3) := by decide +kernel
theorem dJ3_checkIndex_8e157_16 : decode cJ3_checkIndex_8e157 16 = .ok (.iload_n 0, 1) := by decide +kernel
theorem dJ3_checkIndex_8e157_17 : decode cJ3_checkIndex_8e157 17 = .ok (.ireturn, 1) := by decide +kernel
set_option maxHeartbeats 4000000 in
set_option maxRecDepth 100000 in
theorem c_J3_checkIndexN {l : Launch} {G : Gc} (k9 : Nat) (n9 : Nat) (hk9 : k9 < n9) (hn9 : n9 < 2 ^ 31) : Ci l yJ3_checkIndex_8e157 cJ3_checkIndex_8e157 3 (some .int) 0 0 0 G [.int (nI k9), .int (nI n9), .null] [] (fun (r9 : Int32) (u9 : va_W) => r9 = (nI k9) ∧ u9 = []) := by
  refine Ci.of (by decide) (Nat.le_of_ble_eq_true rfl) ?_
  intro p e s m below meth c ls A B hw hl
  have C : CallFix p m c cJ3_checkIndex_8e157 3 s _ gw "jdk/internal/util/Preconditions" := B.1
  have hl : lv_has ls 3 [(0, .int (nI k9)), (1, .int (nI n9)), (2, .null)] := hl
  refine lv_iload_n C.1 C.2.1 dJ3_checkIndex_8e157_0 rfl (lv_at hl 0 rfl) ?_
  refine lv_if_lt (tgt := 9) C.1 C.2.1 dJ3_checkIndex_8e157_1 (by decide) (fun h9 => absurd h9 (nI_pos (by omega))) (fun _ => ?_)
  refine lv_iload_n C.1 C.2.1 dJ3_checkIndex_8e157_4 rfl (lv_at hl 0 rfl) ?_
  refine lv_iload_n C.1 C.2.1 dJ3_checkIndex_8e157_5 rfl (lv_at hl 1 rfl) ?_
  refine lv_icmp_lt (tgt := 16) C.1 C.2.1 dJ3_checkIndex_8e157_6 (by decide) (fun _ => ?_) (fun h9 => absurd (nI_lt hk9 hn9) h9)
  refine lv_iload_n C.1 C.2.1 dJ3_checkIndex_8e157_16 rfl (lv_at hl 0 rfl) ?_
  exact x_reti B hw ⟨rfl, rfl⟩ (Nat.le_of_ble_eq_true rfl) (Nat.le_of_ble_eq_true rfl) dJ3_checkIndex_8e157_17
set_option maxHeartbeats 4000000 in
set_option maxRecDepth 100000 in
theorem c_J3_checkIndexR {l : Launch} {G : Gc} (k9 : Nat) (n9 : Nat) (t9 : Nat) (hk9 : k9 < n9) (hn9 : n9 < 2 ^ 31) : Ci l yJ3_checkIndex_8e157 cJ3_checkIndex_8e157 3 (some .int) 0 0 0 G [.int (nI k9), .int (nI n9), .ref t9] [] (fun (r9 : Int32) (u9 : va_W) => r9 = (nI k9) ∧ u9 = []) := by
  refine Ci.of (by decide) (Nat.le_of_ble_eq_true rfl) ?_
  intro p e s m below meth c ls A B hw hl
  have C : CallFix p m c cJ3_checkIndex_8e157 3 s _ gw "jdk/internal/util/Preconditions" := B.1
  have hl : lv_has ls 3 [(0, .int (nI k9)), (1, .int (nI n9)), (2, .ref t9)] := hl
  refine lv_iload_n C.1 C.2.1 dJ3_checkIndex_8e157_0 rfl (lv_at hl 0 rfl) ?_
  refine lv_if_lt (tgt := 9) C.1 C.2.1 dJ3_checkIndex_8e157_1 (by decide) (fun h9 => absurd h9 (nI_pos (by omega))) (fun _ => ?_)
  refine lv_iload_n C.1 C.2.1 dJ3_checkIndex_8e157_4 rfl (lv_at hl 0 rfl) ?_
  refine lv_iload_n C.1 C.2.1 dJ3_checkIndex_8e157_5 rfl (lv_at hl 1 rfl) ?_
  refine lv_icmp_lt (tgt := 16) C.1 C.2.1 dJ3_checkIndex_8e157_6 (by decide) (fun _ => ?_) (fun h9 => absurd (nI_lt hk9 hn9) h9)
  refine lv_iload_n C.1 C.2.1 dJ3_checkIndex_8e157_16 rfl (lv_at hl 0 rfl) ?_
  exact x_reti B hw ⟨rfl, rfl⟩ (Nat.le_of_ble_eq_true rfl) (Nat.le_of_ble_eq_true rfl) dJ3_checkIndex_8e157_17
theorem dJ0_checkIndex_df160_0 : decode cJ0_checkIndex_df160 0 = .ok (.iload_n 0, 1) := by decide +kernel
theorem dJ0_checkIndex_df160_1 : decode cJ0_checkIndex_df160 1 = .ok (.iload_n 1, 1) := by decide +kernel
theorem dJ0_checkIndex_df160_2 : decode cJ0_checkIndex_df160 2 = .ok (.getstatic 1053, 3) := by decide +kernel
theorem dJ0_checkIndex_df160_5 : decode cJ0_checkIndex_df160 5 = .ok (.invokestatic 1059, 3) := by decide +kernel
theorem mwJ3_checkIndex_8e157 : MwS yJ3_checkIndex_8e157 cJ3_checkIndex_8e157 3 (some .int) 3 := ⟨⟨kw67, kw5, by decide +kernel⟩, kw66⟩
theorem dJ0_checkIndex_df160_8 : decode cJ0_checkIndex_df160 8 = .ok (.pop, 1) := by decide +kernel
theorem dJ0_checkIndex_df160_9 : decode cJ0_checkIndex_df160 9 = .ok (.return_, 1) := by decide +kernel
set_option maxHeartbeats 4000000 in
set_option maxRecDepth 100000 in
theorem c_J0_checkIndex {l : Launch} {G : Gc} (k9 : Nat) (n9 : Nat) (hk9 : k9 < n9) (hn9 : n9 < 2 ^ 31) : Cv l yJ0_checkIndex_df160 cJ0_checkIndex_df160 2 1 0 0 G [.int (nI k9), .int (nI n9)] [] (fun (u9 : va_W) => u9 = []) := by
  refine Cv.of (by decide) (Nat.le_of_ble_eq_true rfl) ?_
  intro p e s m below meth c ls A B hw hl
  have C : CallFix p m c cJ0_checkIndex_df160 2 s _ gw "java/lang/String" := B.1
  have hl : lv_has ls 2 [(0, .int (nI k9)), (1, .int (nI n9))] := hl
  refine lv_iload_n C.1 C.2.1 dJ0_checkIndex_df160_0 rfl (lv_at hl 0 rfl) ?_
  refine lv_iload_n C.1 C.2.1 dJ0_checkIndex_df160_1 rfl (lv_at hl 1 rfl) ?_
  rcases hw.2.2.2.2.2.2.2.1 with hz | ⟨t9, hz⟩
  · skip
    refine va_gets C.1 C.2.1 hz hw.2.2.2.1 C.2.2.2.1 (C.2.2.2.2 _ kw63) (fun _ h9 => h9) dJ0_checkIndex_df160_2 ?_
    refine x_calliS (As := [.int (nI k9), .int (nI n9), .null]) (rest := []) (wr := []) C hw (c_J3_checkIndexN k9 n9 hk9 hn9) mwJ3_checkIndex_8e157 kw65 [] [] rfl rfl rfl rfl (by decide) rfl hl.1 rfl (Nat.le_of_ble_eq_true rfl) ⟨(Nat.le_of_ble_eq_true rfl), (Nat.le_of_ble_eq_true rfl)⟩ ⟨(Nat.le_of_ble_eq_true rfl), (Nat.le_of_ble_eq_true rfl)⟩ dJ0_checkIndex_df160_5 (fun r1 u9 H locs hp9 hw => ?_)
    obtain ⟨rfl, rfl⟩ := hp9
    have hw : Wd G s A [] H _ := hw
    refine lv_pop C.1 C.2.1 dJ0_checkIndex_df160_8 rfl ?_
    exact x_retv B hw rfl (Nat.le_of_ble_eq_true rfl) (Nat.le_of_ble_eq_true rfl) dJ0_checkIndex_df160_9
  · skip
    refine va_gets C.1 C.2.1 hz hw.2.2.2.1 C.2.2.2.1 (C.2.2.2.2 _ kw63) (fun _ h9 => h9) dJ0_checkIndex_df160_2 ?_
    refine x_calliS (As := [.int (nI k9), .int (nI n9), .ref t9]) (rest := []) (wr := []) C hw (c_J3_checkIndexR k9 n9 t9 hk9 hn9) mwJ3_checkIndex_8e157 kw65 [] [] rfl rfl rfl rfl (by decide) rfl hl.1 rfl (Nat.le_of_ble_eq_true rfl) ⟨(Nat.le_of_ble_eq_true rfl), (Nat.le_of_ble_eq_true rfl)⟩ ⟨(Nat.le_of_ble_eq_true rfl), (Nat.le_of_ble_eq_true rfl)⟩ dJ0_checkIndex_df160_5 (fun r2 u9 H locs hp9 hw => ?_)
    obtain ⟨rfl, rfl⟩ := hp9
    have hw : Wd G s A [] H _ := hw
    refine lv_pop C.1 C.2.1 dJ0_checkIndex_df160_8 rfl ?_
    exact x_retv B hw rfl (Nat.le_of_ble_eq_true rfl) (Nat.le_of_ble_eq_true rfl) dJ0_checkIndex_df160_9
theorem dJ0_coder_7d493_0 : decode cJ0_coder_7d493 0 = .ok (.getstatic 38, 3) := by decide +kernel
theorem dJ0_coder_7d493_3 : decode cJ0_coder_7d493 3 = .ok (.ifCond .eq 10, 3) := by decide +kernel
theorem dJ0_coder_7d493_6 : decode cJ0_coder_7d493 6 = .ok (.aload_n 0, 1) := by decide +kernel
theorem dJ0_coder_7d493_7 : decode cJ0_coder_7d493 7 = .ok (.getfield 15, 3) := by decide +kernel
theorem dJ0_coder_7d493_10 : decode cJ0_coder_7d493 10 = .ok (.goto 4, 3) := by decide +kernel
theorem dJ0_coder_7d493_14 : decode cJ0_coder_7d493 14 = .ok (.ireturn, 1) := by decide +kernel
set_option maxHeartbeats 4000000 in
set_option maxRecDepth 100000 in
theorem c_J0_coder {l : Launch} {G : Gc} (i9 : Nat) (hi9 : i9 < 7) : Ci l yJ0_coder_7d493 cJ0_coder_7d493 1 (some .byte) 0 0 0 G [.ref (G.2.2.1 i9)] [] (fun (r9 : Int32) (u9 : va_W) => r9 = 0 ∧ u9 = []) := by
  refine Ci.of (by decide) (Nat.le_of_ble_eq_true rfl) ?_
  intro p e s m below meth c ls A B hw hl
  have C : CallFix p m c cJ0_coder_7d493 1 s _ gw "java/lang/String" := B.1
  have hl : lv_has ls 1 [(0, .ref (G.2.2.1 i9))] := hl
  refine va_gets C.1 C.2.1 hw.2.2.2.2.2.2.1 hw.2.2.2.1 C.2.2.2.1 (C.2.2.2.2 _ kw47) (fun _ h9 => h9) dJ0_coder_7d493_0 ?_
  refine lv_if_eq (tgt := 13) C.1 C.2.1 dJ0_coder_7d493_3 (by decide) (fun h9 => absurd h9 (by decide)) (fun _ => ?_)
  refine lv_aload_n C.1 C.2.1 dJ0_coder_7d493_6 rfl (lv_at hl 0 rfl) ?_
  refine vk_getf C.1 C.2.1 (hw.2.2.2.2.2.1.1 i9 hi9).2.1 hw.2.2.2.1 C.2.2.2.1 (C.2.2.2.2 _ kw1828) (fun _ h9 => h9) dJ0_coder_7d493_7 ?_
  refine lv_goto (tgt := 14) C.1 C.2.1 dJ0_coder_7d493_10 (by decide) ?_
  exact x_retz B hw rfl ⟨rfl, rfl⟩ (Nat.le_of_ble_eq_true rfl) (Nat.le_of_ble_eq_true rfl) dJ0_coder_7d493_14
theorem dJ0_isLatin1_aae02_0 : decode cJ0_isLatin1_aae02 0 = .ok (.getstatic 38, 3) := by decide +kernel
theorem dJ0_isLatin1_aae02_3 : decode cJ0_isLatin1_aae02 3 = .ok (.ifCond .eq 14, 3) := by decide +kernel
theorem dJ0_isLatin1_aae02_6 : decode cJ0_isLatin1_aae02 6 = .ok (.aload_n 0, 1) := by decide +kernel
theorem dJ0_isLatin1_aae02_7 : decode cJ0_isLatin1_aae02 7 = .ok (.getfield 15, 3) := by decide +kernel
theorem dJ0_isLatin1_aae02_10 : decode cJ0_isLatin1_aae02 10 = .ok (.ifCond .ne 7, 3) := by decide +kernel
theorem dJ0_isLatin1_aae02_13 : decode cJ0_isLatin1_aae02 13 = .ok (.iconst 1, 1) := by decide +kernel
theorem dJ0_isLatin1_aae02_14 : decode cJ0_isLatin1_aae02 14 = .ok (.goto 4, 3) := by decide +kernel
theorem dJ0_isLatin1_aae02_18 : decode cJ0_isLatin1_aae02 18 = .ok (.ireturn, 1) := by decide +kernel
set_option maxHeartbeats 4000000 in
set_option maxRecDepth 100000 in
theorem c_J0_isLatin1 {l : Launch} {G : Gc} (i9 : Nat) (hi9 : i9 < 7) : Ci l yJ0_isLatin1_aae02 cJ0_isLatin1_aae02 1 (some .boolean) 0 0 0 G [.ref (G.2.2.1 i9)] [] (fun (r9 : Int32) (u9 : va_W) => r9 = 1 ∧ u9 = []) := by
  refine Ci.of (by decide) (Nat.le_of_ble_eq_true rfl) ?_
  intro p e s m below meth c ls A B hw hl
  have C : CallFix p m c cJ0_isLatin1_aae02 1 s _ gw "java/lang/String" := B.1
  have hl : lv_has ls 1 [(0, .ref (G.2.2.1 i9))] := hl
  refine va_gets C.1 C.2.1 hw.2.2.2.2.2.2.1 hw.2.2.2.1 C.2.2.2.1 (C.2.2.2.2 _ kw47) (fun _ h9 => h9) dJ0_isLatin1_aae02_0 ?_
  refine lv_if_eq (tgt := 17) C.1 C.2.1 dJ0_isLatin1_aae02_3 (by decide) (fun h9 => absurd h9 (by decide)) (fun _ => ?_)
  refine lv_aload_n C.1 C.2.1 dJ0_isLatin1_aae02_6 rfl (lv_at hl 0 rfl) ?_
  refine vk_getf C.1 C.2.1 (hw.2.2.2.2.2.1.1 i9 hi9).2.1 hw.2.2.2.1 C.2.2.2.1 (C.2.2.2.2 _ kw1828) (fun _ h9 => h9) dJ0_isLatin1_aae02_7 ?_
  refine lv_if_ne (tgt := 17) C.1 C.2.1 dJ0_isLatin1_aae02_10 (by decide) (fun h9 => absurd (by decide) h9) (fun _ => ?_)
  refine lv_iconst (v := 1) C.1 C.2.1 dJ0_isLatin1_aae02_13 (by decide) ?_
  refine lv_goto (tgt := 18) C.1 C.2.1 dJ0_isLatin1_aae02_14 (by decide) ?_
  exact x_retz B hw rfl ⟨rfl, rfl⟩ (Nat.le_of_ble_eq_true rfl) (Nat.le_of_ble_eq_true rfl) dJ0_isLatin1_aae02_18
theorem dJ0_length_8abf5_0 : decode cJ0_length_8abf5 0 = .ok (.aload_n 0, 1) := by decide +kernel
theorem dJ0_length_8abf5_1 : decode cJ0_length_8abf5 1 = .ok (.getfield 9, 3) := by decide +kernel
theorem dJ0_length_8abf5_4 : decode cJ0_length_8abf5 4 = .ok (.arraylength, 1) := by decide +kernel
theorem dJ0_length_8abf5_5 : decode cJ0_length_8abf5 5 = .ok (.aload_n 0, 1) := by decide +kernel
theorem dJ0_length_8abf5_6 : decode cJ0_length_8abf5 6 = .ok (.invokevirtual 335, 3) := by decide +kernel
theorem mwJ0_coder_7d493 : MwV yJ0_coder_7d493 cJ0_coder_7d493 1 (some .byte) 0 := ⟨⟨kw46, kw3, by decide +kernel⟩, kw44, kw45⟩
theorem dJ0_length_8abf5_9 : decode cJ0_length_8abf5 9 = .ok (.ishr, 1) := by decide +kernel
theorem dJ0_length_8abf5_10 : decode cJ0_length_8abf5 10 = .ok (.ireturn, 1) := by decide +kernel
set_option maxHeartbeats 4000000 in
set_option maxRecDepth 100000 in
theorem c_J0_length {l : Launch} {G : Gc} (i9 : Nat) (hi9 : i9 < 7) : Ci l yJ0_length_8abf5 cJ0_length_8abf5 1 (some .int) 1 0 0 G [.ref (G.2.2.1 i9)] [] (fun (r9 : Int32) (u9 : va_W) => r9 = (nI (lenJS.getD i9 0)) ∧ u9 = []) := by
  refine Ci.of (by decide) (Nat.le_of_ble_eq_true rfl) ?_
  intro p e s m below meth c ls A B hw hl
  have C : CallFix p m c cJ0_length_8abf5 1 s _ gw "java/lang/String" := B.1
  have hl : lv_has ls 1 [(0, .ref (G.2.2.1 i9))] := hl
  refine lv_aload_n C.1 C.2.1 dJ0_length_8abf5_0 rfl (lv_at hl 0 rfl) ?_
  refine vk_getf C.1 C.2.1 (hw.2.2.2.2.2.1.1 i9 hi9).2.2.1 hw.2.2.2.1 C.2.2.2.1 (C.2.2.2.2 _ kw1827) (fun _ h9 => h9) dJ0_length_8abf5_1 ?_
  refine va_tlen (v := Int32.ofNat (lenJS.getD i9 0)) C.1 C.2.1 (hw.2.2.2.2.2.1.1 i9 hi9).2.2.2 hw.2.2.2.1 rfl dJ0_length_8abf5_4 ?_
  refine lv_aload_n C.1 C.2.1 dJ0_length_8abf5_5 rfl (lv_at hl 0 rfl) ?_
  refine x_calliVR (As := []) (rest := [.int (Int32.ofNat (lenJS.getD i9 0))]) (wr := []) C hw (c_J0_coder i9 hi9) mwJ0_coder_7d493 kw43 [] [] rfl rfl rfl rfl (by decide) (vk_recv hw.2.2.2.2.2.1 hi9 hw.2.2.2.1) rfl hl.1 rfl (Nat.le_of_ble_eq_true rfl) ⟨(Nat.le_of_ble_eq_true rfl), (Nat.le_of_ble_eq_true rfl)⟩ ⟨(Nat.le_of_ble_eq_true rfl), (Nat.le_of_ble_eq_true rfl)⟩ dJ0_length_8abf5_6 (fun r1 u9 H locs hp9 hw => ?_)
  obtain ⟨rfl, rfl⟩ := hp9
  have hw : Wd G s A [] H _ := hw
  refine lv_ishr C.1 C.2.1 dJ0_length_8abf5_9 ?_
  refine x_topi (z := (nI (lenJS.getD i9 0))) (sb_shr0 _) ?_
  exact x_reti B hw ⟨rfl, rfl⟩ (Nat.le_of_ble_eq_true rfl) (Nat.le_of_ble_eq_true rfl) dJ0_length_8abf5_10
theorem dJ1_charAt_3b067_0 : decode cJ1_charAt_3b067 0 = .ok (.iload_n 1, 1) := by decide +kernel
theorem dJ1_charAt_3b067_1 : decode cJ1_charAt_3b067 1 = .ok (.aload_n 0, 1) := by decide +kernel
theorem dJ1_charAt_3b067_2 : decode cJ1_charAt_3b067 2 = .ok (.arraylength, 1) := by decide +kernel
theorem dJ1_charAt_3b067_3 : decode cJ1_charAt_3b067 3 = .ok (.invokestatic 9, 3) := by decide +kernel
theorem mwJ0_checkIndex_df160 : MwS yJ0_checkIndex_df160 cJ0_checkIndex_df160 2 none 2 := ⟨⟨kw62, kw3, by decide +kernel⟩, kw61⟩
theorem dJ1_charAt_3b067_6 : decode cJ1_charAt_3b067 6 = .ok (.aload_n 0, 1) := by decide +kernel
theorem dJ1_charAt_3b067_7 : decode cJ1_charAt_3b067 7 = .ok (.iload_n 1, 1) := by decide +kernel
theorem dJ1_charAt_3b067_8 : decode cJ1_charAt_3b067 8 = .ok (.baload, 1) := by decide +kernel
theorem dJ1_charAt_3b067_9 : decode cJ1_charAt_3b067 9 = .ok (.sipush 255, 3) := by decide +kernel
theorem dJ1_charAt_3b067_12 : decode cJ1_charAt_3b067 12 = .ok (.iand, 1) := by decide +kernel
theorem dJ1_charAt_3b067_13 : decode cJ1_charAt_3b067 13 = .ok (.i2c, 1) := by decide +kernel
theorem dJ1_charAt_3b067_14 : decode cJ1_charAt_3b067 14 = .ok (.ireturn, 1) := by decide +kernel
set_option maxHeartbeats 4000000 in
set_option maxRecDepth 100000 in
theorem c_J1_charAt {l : Launch} {G : Gc} (i9 : Nat) (k9 : Nat) (hi9 : i9 < 7) (hk9 : k9 < lenJS.getD i9 0) (hn9 : lenJS.getD i9 0 < 2 ^ 31) : Ci l yJ1_charAt_3b067 cJ1_charAt_3b067 2 (some .char) 2 0 0 G [.ref (G.2.2.2 i9), .int (nI k9)] [] (fun (r9 : Int32) (u9 : va_W) => r9 = ((((bytJS.getD i9 []).getD (nI k9).toNatClampNeg 0 &&& 255).toUInt32 % 65536).toInt32) ∧ u9 = []) := by
  refine Ci.of (by decide) (Nat.le_of_ble_eq_true rfl) ?_
  intro p e s m below meth c ls A B hw hl
  have C : CallFix p m c cJ1_charAt_3b067 2 s _ gw "java/lang/StringLatin1" := B.1
  have hl : lv_has ls 2 [(0, .ref (G.2.2.2 i9)), (1, .int (nI k9))] := hl
  refine lv_iload_n C.1 C.2.1 dJ1_charAt_3b067_0 rfl (lv_at hl 1 rfl) ?_
  refine lv_aload_n C.1 C.2.1 dJ1_charAt_3b067_1 rfl (lv_at hl 0 rfl) ?_
  refine va_tlen (v := Int32.ofNat (lenJS.getD i9 0)) C.1 C.2.1 (hw.2.2.2.2.2.1.1 i9 hi9).2.2.2 hw.2.2.2.1 rfl dJ1_charAt_3b067_2 ?_
  refine x_topi (z := (nI (lenJS.getD i9 0))) rfl ?_
  refine x_callvS (As := [.int (nI k9), .int (nI (lenJS.getD i9 0))]) (rest := []) (wr := []) C hw (c_J0_checkIndex k9 (lenJS.getD i9 0) hk9 hn9) mwJ0_checkIndex_df160 kw60 [] [] rfl rfl rfl rfl (by decide) rfl hl.1 rfl (Nat.le_of_ble_eq_true rfl) ⟨(Nat.le_of_ble_eq_true rfl), (Nat.le_of_ble_eq_true rfl)⟩ ⟨(Nat.le_of_ble_eq_true rfl), (Nat.le_of_ble_eq_true rfl)⟩ dJ1_charAt_3b067_3 (fun  u9 H locs hp9 hw => ?_)
  obtain rfl := hp9
  have hw : Wd G s A [] H _ := hw
  refine lv_aload_n C.1 C.2.1 dJ1_charAt_3b067_6 rfl (lv_at hl 0 rfl) ?_
  refine lv_iload_n C.1 C.2.1 dJ1_charAt_3b067_7 rfl (lv_at hl 1 rfl) ?_
  refine va_tb (v := .int ((bytJS.getD i9 []).getD (nI k9).toNatClampNeg 0)) C.1 C.2.1 (hw.2.2.2.2.2.1.1 i9 hi9).2.2.2 hw.2.2.2.1 (vp_in_nI hk9 hn9) rfl dJ1_charAt_3b067_8 ?_
  refine lv_sipush (v := 255) C.1 C.2.1 dJ1_charAt_3b067_9 (by decide) ?_
  refine lv_iand C.1 C.2.1 dJ1_charAt_3b067_12 ?_
  refine lv_i2c (v := (((((bytJS.getD i9 []).getD (nI k9).toNatClampNeg 0) &&& 255).toUInt32 % 65536).toInt32)) C.1 C.2.1 dJ1_charAt_3b067_13 rfl ?_
  exact x_retz B hw (pk_nc _) ⟨rfl, rfl⟩ (Nat.le_of_ble_eq_true rfl) (Nat.le_of_ble_eq_true rfl) dJ1_charAt_3b067_14
theorem dJ0_charAt_5068e_0 : decode cJ0_charAt_5068e 0 = .ok (.aload_n 0, 1) := by decide +kernel
theorem dJ0_charAt_5068e_1 : decode cJ0_charAt_5068e 1 = .ok (.invokevirtual 492, 3) := by decide +kernel
theorem mwJ0_isLatin1_aae02 : MwV yJ0_isLatin1_aae02 cJ0_isLatin1_aae02 1 (some .boolean) 0 := ⟨⟨kw56, kw3, by decide +kernel⟩, kw54, kw55⟩
theorem dJ0_charAt_5068e_4 : decode cJ0_charAt_5068e 4 = .ok (.ifCond .eq 12, 3) := by decide +kernel
theorem dJ0_charAt_5068e_7 : decode cJ0_charAt_5068e 7 = .ok (.aload_n 0, 1) := by decide +kernel
theorem dJ0_charAt_5068e_8 : decode cJ0_charAt_5068e 8 = .ok (.getfield 9, 3) := by decide +kernel
theorem dJ0_charAt_5068e_11 : decode cJ0_charAt_5068e 11 = .ok (.iload_n 1, 1) := by decide +kernel
theorem dJ0_charAt_5068e_12 : decode cJ0_charAt_5068e 12 = .ok (.invokestatic 495, 3) := by decide +kernel
theorem mwJ1_charAt_3b067 : MwS yJ1_charAt_3b067 cJ1_charAt_3b067 2 (some .char) 2 := ⟨⟨kw59, kw4, by decide +kernel⟩, kw58⟩
theorem dJ0_charAt_5068e_15 : decode cJ0_charAt_5068e 15 = .ok (.ireturn, 1) := by decide +kernel
set_option maxHeartbeats 4000000 in
set_option maxRecDepth 100000 in
theorem c_J0_charAt {l : Launch} {G : Gc} (i9 : Nat) (k9 : Nat) (hi9 : i9 < 7) (hk9 : k9 < lenJS.getD i9 0) (hn9 : lenJS.getD i9 0 < 2 ^ 31) : Ci l yJ0_charAt_5068e cJ0_charAt_5068e 2 (some .char) 3 0 0 G [.ref (G.2.2.1 i9), .int (nI k9)] [] (fun (r9 : Int32) (u9 : va_W) => r9 = ((((bytJS.getD i9 []).getD (nI k9).toNatClampNeg 0 &&& 255).toUInt32 % 65536).toInt32) ∧ u9 = []) := by
  refine Ci.of (by decide) (Nat.le_of_ble_eq_true rfl) ?_
  intro p e s m below meth c ls A B hw hl
  have C : CallFix p m c cJ0_charAt_5068e 2 s _ gw "java/lang/String" := B.1
  have hl : lv_has ls 2 [(0, .ref (G.2.2.1 i9)), (1, .int (nI k9))] := hl
  refine lv_aload_n C.1 C.2.1 dJ0_charAt_5068e_0 rfl (lv_at hl 0 rfl) ?_
  refine x_calliVR (As := []) (rest := []) (wr := []) C hw (c_J0_isLatin1 i9 hi9) mwJ0_isLatin1_aae02 kw53 [] [] rfl rfl rfl rfl (by decide) (vk_recv hw.2.2.2.2.2.1 hi9 hw.2.2.2.1) rfl hl.1 rfl (Nat.le_of_ble_eq_true rfl) ⟨(Nat.le_of_ble_eq_true rfl), (Nat.le_of_ble_eq_true rfl)⟩ ⟨(Nat.le_of_ble_eq_true rfl), (Nat.le_of_ble_eq_true rfl)⟩ dJ0_charAt_5068e_1 (fun r1 u9 H locs hp9 hw => ?_)
  obtain ⟨rfl, rfl⟩ := hp9
  have hw : Wd G s A [] H _ := hw
  refine lv_if_eq (tgt := 16) C.1 C.2.1 dJ0_charAt_5068e_4 (by decide) (fun h9 => absurd h9 (by decide)) (fun _ => ?_)
  refine lv_aload_n C.1 C.2.1 dJ0_charAt_5068e_7 rfl (lv_at hl 0 rfl) ?_
  refine vk_getf C.1 C.2.1 (hw.2.2.2.2.2.1.1 i9 hi9).2.2.1 hw.2.2.2.1 C.2.2.2.1 (C.2.2.2.2 _ kw1827) (fun _ h9 => h9) dJ0_charAt_5068e_8 ?_
  refine lv_iload_n C.1 C.2.1 dJ0_charAt_5068e_11 rfl (lv_at hl 1 rfl) ?_
  refine x_calliS (As := [.ref (G.2.2.2 i9), .int (nI k9)]) (rest := []) (wr := []) C hw (c_J1_charAt i9 k9 hi9 hk9 hn9) mwJ1_charAt_3b067 kw57 [] [] rfl rfl rfl rfl (by decide) rfl hl.1 rfl (Nat.le_of_ble_eq_true rfl) ⟨(Nat.le_of_ble_eq_true rfl), (Nat.le_of_ble_eq_true rfl)⟩ ⟨(Nat.le_of_ble_eq_true rfl), (Nat.le_of_ble_eq_true rfl)⟩ dJ0_charAt_5068e_12 (fun r2 u9 H locs hp9 hw => ?_)
  obtain ⟨rfl, rfl⟩ := hp9
  have hw : Wd G s A [] H _ := hw
  exact x_retz B hw (pk_nc _) ⟨rfl, rfl⟩ (Nat.le_of_ble_eq_true rfl) (Nat.le_of_ble_eq_true rfl) dJ0_charAt_5068e_15
end
section
theorem dX9_init_0 : decode cX9_init 0 = .ok (.aload_n 0, 1) := by decide +kernel
theorem dX9_init_1 : decode cX9_init 1 = .ok (.invokespecial 3, 3) := by decide +kernel
theorem dX9_init_4 : decode cX9_init 4 = .ok (.aload_n 0, 1) := by decide +kernel
theorem dX9_init_5 : decode cX9_init 5 = .ok (.bipush 27, 2) := by decide +kernel
theorem dX9_init_7 : decode cX9_init 7 = .ok (.newarray .long, 2) := by decide +kernel
theorem dX9_init_9 : decode cX9_init 9 = .ok (.putfield 9, 3) := by decide +kernel
theorem dX9_init_12 : decode cX9_init 12 = .ok (.aload_n 0, 1) := by decide +kernel
theorem dX9_init_13 : decode cX9_init 13 = .ok (.sipush 940, 3) := by decide +kernel
theorem dX9_init_16 : decode cX9_init 16 = .ok (.newarray .byte, 2) := by decide +kernel
theorem dX9_init_18 : decode cX9_init 18 = .ok (.putfield 15, 3) := by decide +kernel
theorem dX9_init_21 : decode cX9_init 21 = .ok (.iconst 0, 1) := by decide +kernel
theorem dX9_init_22 : decode cX9_init 22 = .ok (.istore_n 1, 1) := by decide +kernel
theorem dX9_init_23 : decode cX9_init 23 = .ok (.lconst 0, 1) := by decide +kernel
theorem dX9_init_24 : decode cX9_init 24 = .ok (.lstore_n 2, 1) := by decide +kernel
theorem dX9_init_25 : decode cX9_init 25 = .ok (.iconst 0, 1) := by decide +kernel
theorem dX9_init_26 : decode cX9_init 26 = .ok (.istore 4, 2) := by decide +kernel
theorem dX9_init_28 : decode cX9_init 28 = .ok (.iload 4, 2) := by decide +kernel
theorem dX9_init_30 : decode cX9_init 30 = .ok (.ldc 19, 2) := by decide +kernel
theorem dX9_init_32 : decode cX9_init 32 = .ok (.invokevirtual 21, 3) := by decide +kernel
theorem mwJ0_length_8abf5 : MwV yJ0_length_8abf5 cJ0_length_8abf5 1 (some .int) 0 := ⟨⟨kw42, kw3, by decide +kernel⟩, kw40, kw41⟩
theorem dX9_init_35 : decode cX9_init 35 = .ok (.if_icmp .ge 61, 3) := by decide +kernel
theorem dX9_init_96 : decode cX9_init 96 = .ok (.return_, 1) := by decide +kernel
theorem dX9_init_38 : decode cX9_init 38 = .ok (.ldc 19, 2) := by decide +kernel
theorem dX9_init_40 : decode cX9_init 40 = .ok (.iload 4, 2) := by decide +kernel
theorem dX9_init_42 : decode cX9_init 42 = .ok (.invokevirtual 27, 3) := by decide +kernel
theorem mwJ0_charAt_5068e : MwV yJ0_charAt_5068e cJ0_charAt_5068e 2 (some .char) 1 := ⟨⟨kw52, kw3, by decide +kernel⟩, kw50, kw51⟩
theorem dX9_init_45 : decode cX9_init 45 = .ok (.istore 5, 2) := by decide +kernel
theorem dX9_init_47 : decode cX9_init 47 = .ok (.iload 5, 2) := by decide +kernel
theorem dX9_init_49 : decode cX9_init 49 = .ok (.bipush 32, 2) := by decide +kernel
theorem dX9_init_51 : decode cX9_init 51 = .ok (.if_icmp .eq 21, 3) := by decide +kernel
theorem dX9_init_72 : decode cX9_init 72 = .ok (.iload_n 1, 1) := by decide +kernel
theorem dX9_init_73 : decode cX9_init 73 = .ok (.bipush 27, 2) := by decide +kernel
theorem dX9_init_75 : decode cX9_init 75 = .ok (.if_icmp .ge 15, 3) := by decide +kernel
theorem dX9_init_90 : decode cX9_init 90 = .ok (.iinc 4 1, 3) := by decide +kernel
theorem dX9_init_93 : decode cX9_init 93 = .ok (.goto (-65), 3) := by decide +kernel
theorem dX9_init_78 : decode cX9_init 78 = .ok (.aload_n 0, 1) := by decide +kernel
theorem dX9_init_79 : decode cX9_init 79 = .ok (.getfield 9, 3) := by decide +kernel
theorem dX9_init_82 : decode cX9_init 82 = .ok (.iload_n 1, 1) := by decide +kernel
theorem dX9_init_83 : decode cX9_init 83 = .ok (.lload_n 2, 1) := by decide +kernel
theorem dX9_init_84 : decode cX9_init 84 = .ok (.lastore, 1) := by decide +kernel
theorem dX9_init_85 : decode cX9_init 85 = .ok (.lconst 0, 1) := by decide +kernel
theorem dX9_init_86 : decode cX9_init 86 = .ok (.lstore_n 2, 1) := by decide +kernel
theorem dX9_init_87 : decode cX9_init 87 = .ok (.iinc 1 1, 3) := by decide +kernel
theorem dX9_init_54 : decode cX9_init 54 = .ok (.lload_n 2, 1) := by decide +kernel
theorem dX9_init_55 : decode cX9_init 55 = .ok (.ldc2_w 31, 3) := by decide +kernel
theorem dX9_init_58 : decode cX9_init 58 = .ok (.lmul, 1) := by decide +kernel
theorem dX9_init_59 : decode cX9_init 59 = .ok (.iload 5, 2) := by decide +kernel
theorem dX9_init_61 : decode cX9_init 61 = .ok (.bipush 97, 2) := by decide +kernel
theorem dX9_init_63 : decode cX9_init 63 = .ok (.isub, 1) := by decide +kernel
theorem dX9_init_64 : decode cX9_init 64 = .ok (.iconst 1, 1) := by decide +kernel
theorem dX9_init_65 : decode cX9_init 65 = .ok (.iadd, 1) := by decide +kernel
theorem dX9_init_66 : decode cX9_init 66 = .ok (.i2l, 1) := by decide +kernel
theorem dX9_init_67 : decode cX9_init 67 = .ok (.ladd, 1) := by decide +kernel
theorem dX9_init_68 : decode cX9_init 68 = .ok (.lstore_n 2, 1) := by decide +kernel
theorem dX9_init_69 : decode cX9_init 69 = .ok (.goto 21, 3) := by decide +kernel
-- Tape()
set_option maxHeartbeats 4000000 in
set_option maxRecDepth 100000 in
theorem c_X9_init {l : Launch} {G : Gc} (qt : Nat)  : Cv l yX9_init cX9_init 6 4 2 967 G [.ref qt] [(qt, .inr (8, [.null, .null, .int 0, .int 0, .int 0, .int 0, .int 0, .int 0, .long 0, .int 0, .int 0, .int 0]))] (fun (u9 : va_W) => ∃ (kc : Nat) (bys : Nat) (fkc : Nat → Int64), u9 = [(qt, .inr (8, [.ref kc, .ref bys, .int 0, .int 0, .int 0, .int 0, .int 0, .int 0, .long 0, .int 0, .int 0, .int 0])), (kc, eJ G 27 fkc), (bys, eB G 940 (fun _ => 0))]) := by
  refine Cv.of (by decide) (Nat.le_of_ble_eq_true rfl) ?_
  intro p e s m below meth c ls A B hw hl
  have C : CallFix p m c cX9_init 6 s _ gw "LanternState$Tape" := B.1
  have hl : lv_has ls 6 [(0, .ref qt)] := hl
  refine lv_aload_n C.1 C.2.1 dX9_init_0 rfl (lv_at hl 0 rfl) ?_
  refine x_objInit C kw37 hl.1 (Nat.le_of_ble_eq_true rfl) (Nat.le_of_ble_eq_true rfl) dX9_init_1 ?_
  refine lv_aload_n C.1 C.2.1 dX9_init_4 rfl (lv_at hl 0 rfl) ?_
  refine lv_bipush (v := 27) C.1 C.2.1 dX9_init_5 (by decide) ?_
  refine x_newa (a0 := (27, .inr (.inl (fun _ => 0)))) (N := 27) C hw (atype := .long) rfl 3 rfl kw139 (fun _ => rfl) (by decide) (by decide) (Nat.le_of_ble_eq_true rfl) (Nat.le_of_ble_eq_true rfl) (Nat.le_of_ble_eq_true rfl) dX9_init_7 (fun q1 H hw => ?_)
  have hw : Wd G s A [(qt, .inr (8, [.null, .null, .int 0, .int 0, .int 0, .int 0, .int 0, .int 0, .long 0, .int 0, .int 0, .int 0])), (q1, eJ G 27 (fun _ => 0))] H _ := hw
  refine W.widen (k := 1) (n := 27) (Nat.le_of_ble_eq_true rfl) (Nat.le_of_ble_eq_true rfl) ?_
  refine x_putF (w' := [(qt, .inr (8, [.ref q1, .null, .int 0, .int 0, .int 0, .int 0, .int 0, .int 0, .long 0, .int 0, .int 0, .int 0])), (q1, eJ G 27 (fun _ => 0))]) C hw iwX9 tyX9_ok nmX9 B.2.2.2 8 rfl 0 rfl 0 (by decide) kw88 rfl rfl rfl rfl (Nat.le_of_ble_eq_true rfl) rfl dX9_init_9 (fun H locs hw => ?_)
  refine lv_aload_n C.1 C.2.1 dX9_init_12 rfl (lv_at hl 0 rfl) ?_
  refine lv_sipush (v := 940) C.1 C.2.1 dX9_init_13 (by decide) ?_
  refine x_newa (a0 := (940, .inl (fun _ => 0))) (N := 940) C hw (atype := .byte) rfl 0 rfl kw140 (fun _ => rfl) (by decide) (by decide) (Nat.le_of_ble_eq_true rfl) (Nat.le_of_ble_eq_true rfl) (Nat.le_of_ble_eq_true rfl) dX9_init_16 (fun q2 H hw => ?_)
  have hw : Wd G s A [(qt, .inr (8, [.ref q1, .null, .int 0, .int 0, .int 0, .int 0, .int 0, .int 0, .long 0, .int 0, .int 0, .int 0])), (q1, eJ G 27 (fun _ => 0)), (q2, eB G 940 (fun _ => 0))] H _ := hw
  refine W.widen (k := 2) (n := 967) (Nat.le_of_ble_eq_true rfl) (Nat.le_of_ble_eq_true rfl) ?_
  refine x_putF (w' := [(qt, .inr (8, [.ref q1, .ref q2, .int 0, .int 0, .int 0, .int 0, .int 0, .int 0, .long 0, .int 0, .int 0, .int 0])), (q1, eJ G 27 (fun _ => 0)), (q2, eB G 940 (fun _ => 0))]) C hw iwX9 tyX9_ok nmX9 B.2.2.2 8 rfl 0 rfl 1 (by decide) kw89 rfl rfl rfl rfl (Nat.le_of_ble_eq_true rfl) rfl dX9_init_18 (fun H locs hw => ?_)
  refine lv_iconst (v := 0) C.1 C.2.1 dX9_init_21 (by decide) ?_
  refine lv_istore_n (lv' := [(1, .int 0), (0, .ref qt)]) C.1 C.2.1 dX9_init_22 rfl hl (by decide) rfl (fun ls hl => ?_)
  refine lv_lconst (v := 0) C.1 C.2.1 dX9_init_23 (by decide) ?_
  refine lv_lstore_n (lv' := [(2, .long 0), (1, .int 0), (0, .ref qt)]) C.1 C.2.1 dX9_init_24 rfl hl (by decide) rfl (fun ls hl => ?_)
  refine lv_iconst (v := 0) C.1 C.2.1 dX9_init_25 (by decide) ?_
  refine lv_istore (lv' := [(4, .int 0), (2, .long 0), (1, .int 0), (0, .ref qt)]) C.1 C.2.1 dX9_init_26 hl (by decide) rfl (fun ls hl => ?_)
  have loop28 : ∀ (n9 : Nat) (k9 : Nat) (j9 : Nat) (wv : Int64) (fk : Nat → Int64), 151 - k9 < n9 → k9 ≤ 151 → j9 ≤ 27 → ∀ (H : Heap) (locs : List Loc) (ls : Array Slot), Wd G s A [(qt, .inr (8, [.ref q1, .ref q2, .int 0, .int 0, .int 0, .int 0, .int 0, .int 0, .long 0, .int 0, .int 0, .int 0])), (q1, eJ G 27 fk), (q2, eB G 940 (fun _ => 0))] H locs → lv_has ls 6 [(4, .int (nI k9)), (2, .long wv), (1, .int (nI j9)), (0, .ref qt)] → W p l e (rmD 4 2 967) s m [.ref qt].toArray below meth c H locs 2 967 (MQ below (va_Qv (fun (u9 : va_W) => ∃ (kc : Nat) (bys : Nat) (fkc : Nat → Int64), u9 = [(qt, .inr (8, [.ref kc, .ref bys, .int 0, .int 0, .int 0, .int 0, .int 0, .int 0, .long 0, .int 0, .int 0, .int 0])), (kc, eJ G 27 fkc), (bys, eB G 940 (fun _ => 0))]) (mB G A) A) [.ref qt].toArray s 2 967 A) (F0 m 28 ls []) := by
    intro n9
    induction n9 with
    | zero => intro k9 j9 wv fk h9; exact absurd h9 (Nat.not_lt_zero _)
    | succ n9 ih =>
      intro k9 j9 wv fk h9 hi9 hj9 H locs ls hw hl
      refine lv_iload C.1 C.2.1 dX9_init_28 (lv_at hl 0 rfl) ?_
      refine va_ldcS C.1 C.2.1 C.2.2.2.1 (strk0 hw.1) dX9_init_30 ?_
      refine x_calliVR (As := []) (rest := [.int (nI k9)]) (wr := [(qt, .inr (8, [.ref q1, .ref q2, .int 0, .int 0, .int 0, .int 0, .int 0, .int 0, .long 0, .int 0, .int 0, .int 0])), (q1, eJ G 27 fk), (q2, eB G 940 (fun _ => 0))]) C hw (c_J0_length 0 (by decide)) mwJ0_length_8abf5 kw39 [] [0, 1, 2] rfl rfl rfl rfl (by decide) (vk_recv hw.2.2.2.2.2.1 (by decide) hw.2.2.2.1) rfl hl.1 rfl (Nat.le_of_ble_eq_true rfl) ⟨(Nat.le_of_ble_eq_true rfl), (Nat.le_of_ble_eq_true rfl)⟩ ⟨(Nat.le_of_ble_eq_true rfl), (Nat.le_of_ble_eq_true rfl)⟩ dX9_init_32 (fun r3 u9 H locs hp9 hw => ?_)
      obtain ⟨rfl, rfl⟩ := hp9
      have hw : Wd G s A [(qt, .inr (8, [.ref q1, .ref q2, .int 0, .int 0, .int 0, .int 0, .int 0, .int 0, .long 0, .int 0, .int 0, .int 0])), (q1, eJ G 27 fk), (q2, eB G 940 (fun _ => 0))] H _ := hw
      refine x_topi (z := 151) (by decide) ?_
      refine lv_icmp_ge (tgt := 96) C.1 C.2.1 dX9_init_35 (by decide) (fun c_35 => ?_) (fun c_35 => ?_)
      · skip
        exact x_retv B hw ⟨q1, q2, fk, rfl⟩ (Nat.le_of_ble_eq_true rfl) (Nat.le_of_ble_eq_true rfl) dX9_init_96
      · skip
        have hk35 : k9 < 151 := x_ltN hi9 c_35 (by decide)
        refine va_ldcS C.1 C.2.1 C.2.2.2.1 (strk0 hw.1) dX9_init_38 ?_
        refine lv_iload C.1 C.2.1 dX9_init_40 (lv_at hl 0 rfl) ?_
        refine x_calliVR (As := [.int (nI k9)]) (rest := []) (wr := [(qt, .inr (8, [.ref q1, .ref q2, .int 0, .int 0, .int 0, .int 0, .int 0, .int 0, .long 0, .int 0, .int 0, .int 0])), (q1, eJ G 27 fk), (q2, eB G 940 (fun _ => 0))]) C hw (c_J0_charAt 0 k9 (by decide) hk35 (by decide)) mwJ0_charAt_5068e kw49 [] [0, 1, 2] rfl rfl rfl rfl (by decide) (vk_recv hw.2.2.2.2.2.1 (by decide) hw.2.2.2.1) rfl hl.1 rfl (Nat.le_of_ble_eq_true rfl) ⟨(Nat.le_of_ble_eq_true rfl), (Nat.le_of_ble_eq_true rfl)⟩ ⟨(Nat.le_of_ble_eq_true rfl), (Nat.le_of_ble_eq_true rfl)⟩ dX9_init_42 (fun r4 u9 H locs hp9 hw => ?_)
        obtain ⟨rfl, rfl⟩ := hp9
        have hw : Wd G s A [(qt, .inr (8, [.ref q1, .ref q2, .int 0, .int 0, .int 0, .int 0, .int 0, .int 0, .long 0, .int 0, .int 0, .int 0])), (q1, eJ G 27 fk), (q2, eB G 940 (fun _ => 0))] H _ := hw
        refine lv_istore (lv' := [(5, .int ((((bytJS.getD 0 []).getD (nI k9).toNatClampNeg 0 &&& 255).toUInt32 % 65536).toInt32)), (4, .int (nI k9)), (2, .long wv), (1, .int (nI j9)), (0, .ref qt)]) C.1 C.2.1 dX9_init_45 hl (by decide) rfl (fun ls hl => ?_)
        refine lv_iload C.1 C.2.1 dX9_init_47 (lv_at hl 0 rfl) ?_
        refine lv_bipush (v := 32) C.1 C.2.1 dX9_init_49 (by decide) ?_
        refine lv_icmp_eq (tgt := 72) C.1 C.2.1 dX9_init_51 (by decide) (fun c_51 => ?_) (fun c_51 => ?_)
        · skip
          refine lv_iload_n C.1 C.2.1 dX9_init_72 rfl (lv_at hl 3 rfl) ?_
          refine lv_bipush (v := 27) C.1 C.2.1 dX9_init_73 (by decide) ?_
          refine lv_icmp_ge (tgt := 90) C.1 C.2.1 dX9_init_75 (by decide) (fun c_75 => ?_) (fun c_75 => ?_)
          · skip
            refine lv_iinc (v := (nI (k9 + 1))) (lv' := [(4, .int (nI (k9 + 1))), (5, .int ((((bytJS.getD 0 []).getD (nI k9).toNatClampNeg 0 &&& 255).toUInt32 % 65536).toInt32)), (2, .long wv), (1, .int (nI j9)), (0, .ref qt)]) C.1 C.2.1 dX9_init_90 hl (k := 1) rfl (nI_1 k9) (by decide) rfl (fun ls hl => ?_)
            refine lv_goto (tgt := 28) C.1 C.2.1 dX9_init_93 (by decide) ?_
            exact ih (k9 + 1) j9 wv fk (by omega) hk35 hj9 _ _ _ hw (lv_sub hl [0, 2, 3, 4] rfl)
          · skip
            have hk75 : j9 < 27 := x_ltN hj9 c_75 (by decide)
            refine lv_aload_n C.1 C.2.1 dX9_init_78 rfl (lv_at hl 4 rfl) ?_
            refine x_get C hw iwX9 8 rfl 0 rfl 0 (by decide) kw88 rfl dX9_init_79 ?_
            refine lv_iload_n C.1 C.2.1 dX9_init_82 rfl (lv_at hl 3 rfl) ?_
            refine lv_lload_n C.1 C.2.1 dX9_init_83 rfl (lv_at hl 2 rfl) ?_
            refine x_last (f' := (vp_updL fk ((nI j9).toNatClampNeg) wv)) (w' := [(qt, .inr (8, [.ref q1, .ref q2, .int 0, .int 0, .int 0, .int 0, .int 0, .int 0, .long 0, .int 0, .int 0, .int 0])), (q1, eJ G 27 (vp_updL fk ((nI j9).toNatClampNeg) wv)), (q2, eB G 940 (fun _ => 0))]) C hw 1 rfl (vp_in_nI hk75 (by decide)) rfl rfl dX9_init_84 (fun H locs hw => ?_)
            refine lv_lconst (v := 0) C.1 C.2.1 dX9_init_85 (by decide) ?_
            refine lv_lstore_n (lv' := [(2, .long 0), (5, .int ((((bytJS.getD 0 []).getD (nI k9).toNatClampNeg 0 &&& 255).toUInt32 % 65536).toInt32)), (4, .int (nI k9)), (1, .int (nI j9)), (0, .ref qt)]) C.1 C.2.1 dX9_init_86 rfl hl (by decide) rfl (fun ls hl => ?_)
            refine lv_iinc (v := (nI (j9 + 1))) (lv' := [(1, .int (nI (j9 + 1))), (2, .long 0), (5, .int ((((bytJS.getD 0 []).getD (nI k9).toNatClampNeg 0 &&& 255).toUInt32 % 65536).toInt32)), (4, .int (nI k9)), (0, .ref qt)]) C.1 C.2.1 dX9_init_87 hl (k := 3) rfl (nI_1 j9) (by decide) rfl (fun ls hl => ?_)
            refine lv_iinc (v := (nI (k9 + 1))) (lv' := [(4, .int (nI (k9 + 1))), (1, .int (nI (j9 + 1))), (2, .long 0), (5, .int ((((bytJS.getD 0 []).getD (nI k9).toNatClampNeg 0 &&& 255).toUInt32 % 65536).toInt32)), (0, .ref qt)]) C.1 C.2.1 dX9_init_90 hl (k := 3) rfl (nI_1 k9) (by decide) rfl (fun ls hl => ?_)
            refine lv_goto (tgt := 28) C.1 C.2.1 dX9_init_93 (by decide) ?_
            exact ih (k9 + 1) (j9 + 1) 0 (vp_updL fk ((nI j9).toNatClampNeg) wv) (by omega) hk35 hk75 _ _ _ hw (lv_sub hl [0, 2, 1, 4] rfl)
        · skip
          refine lv_lload_n C.1 C.2.1 dX9_init_54 rfl (lv_at hl 2 rfl) ?_
          refine lv_ldc2 (v := 32) C.1 C.2.1 C.2.2.2.1 (C.2.2.2.2 _ kw87) dX9_init_55 ?_
          refine lv_lmul C.1 C.2.1 dX9_init_58 ?_
          refine lv_iload C.1 C.2.1 dX9_init_59 (lv_at hl 0 rfl) ?_
          refine lv_bipush (v := 97) C.1 C.2.1 dX9_init_61 (by decide) ?_
          refine lv_isub C.1 C.2.1 dX9_init_63 ?_
          refine lv_iconst (v := 1) C.1 C.2.1 dX9_init_64 (by decide) ?_
          refine lv_iadd C.1 C.2.1 dX9_init_65 ?_
          refine lv_i2l (v := (((((((bytJS.getD 0 []).getD (nI k9).toNatClampNeg 0 &&& 255).toUInt32 % 65536).toInt32) - 97) + 1).toInt64)) C.1 C.2.1 dX9_init_66 rfl ?_
          refine lv_ladd C.1 C.2.1 dX9_init_67 ?_
          refine lv_lstore_n (lv' := [(2, .long ((wv * 32) + (((((((bytJS.getD 0 []).getD (nI k9).toNatClampNeg 0 &&& 255).toUInt32 % 65536).toInt32) - 97) + 1).toInt64))), (5, .int ((((bytJS.getD 0 []).getD (nI k9).toNatClampNeg 0 &&& 255).toUInt32 % 65536).toInt32)), (4, .int (nI k9)), (1, .int (nI j9)), (0, .ref qt)]) C.1 C.2.1 dX9_init_68 rfl hl (by decide) rfl (fun ls hl => ?_)
          refine lv_goto (tgt := 90) C.1 C.2.1 dX9_init_69 (by decide) ?_
          refine lv_iinc (v := (nI (k9 + 1))) (lv' := [(4, .int (nI (k9 + 1))), (2, .long ((wv * 32) + (((((((bytJS.getD 0 []).getD (nI k9).toNatClampNeg 0 &&& 255).toUInt32 % 65536).toInt32) - 97) + 1).toInt64))), (5, .int ((((bytJS.getD 0 []).getD (nI k9).toNatClampNeg 0 &&& 255).toUInt32 % 65536).toInt32)), (1, .int (nI j9)), (0, .ref qt)]) C.1 C.2.1 dX9_init_90 hl (k := 2) rfl (nI_1 k9) (by decide) rfl (fun ls hl => ?_)
          refine lv_goto (tgt := 28) C.1 C.2.1 dX9_init_93 (by decide) ?_
          exact ih (k9 + 1) j9 ((wv * 32) + (((((((bytJS.getD 0 []).getD (nI k9).toNatClampNeg 0 &&& 255).toUInt32 % 65536).toInt32) - 97) + 1).toInt64)) fk (by omega) hk35 hj9 _ _ _ hw (lv_sub hl [0, 1, 3, 4] rfl)
  exact loop28 _ 0 0 0 (fun _ => 0) (Nat.lt_succ_self _) (Nat.zero_le _) (Nat.zero_le _) _ _ _ hw (lv_sub hl [0, 1, 2, 3] rfl)
end
section
theorem dX2_init_0 : decode cX2_init 0 = .ok (.aload_n 0, 1) := by decide +kernel
theorem dX2_init_1 : decode cX2_init 1 = .ok (.invokespecial 3, 3) := by decide +kernel
theorem dX2_init_4 : decode cX2_init 4 = .ok (.aload_n 0, 1) := by decide +kernel
theorem dX2_init_5 : decode cX2_init 5 = .ok (.bipush 8, 2) := by decide +kernel
theorem dX2_init_7 : decode cX2_init 7 = .ok (.anewarray 9, 3) := by decide +kernel
theorem dX2_init_10 : decode cX2_init 10 = .ok (.putfield 11, 3) := by decide +kernel
theorem dX2_init_13 : decode cX2_init 13 = .ok (.iconst 0, 1) := by decide +kernel
theorem dX2_init_14 : decode cX2_init 14 = .ok (.istore_n 1, 1) := by decide +kernel
theorem dX2_init_15 : decode cX2_init 15 = .ok (.iload_n 1, 1) := by decide +kernel
theorem dX2_init_16 : decode cX2_init 16 = .ok (.bipush 8, 2) := by decide +kernel
theorem dX2_init_18 : decode cX2_init 18 = .ok (.if_icmp .ge 22, 3) := by decide +kernel
theorem dX2_init_21 : decode cX2_init 21 = .ok (.aload_n 0, 1) := by decide +kernel
theorem dX2_init_22 : decode cX2_init 22 = .ok (.getfield 11, 3) := by decide +kernel
theorem dX2_init_25 : decode cX2_init 25 = .ok (.iload_n 1, 1) := by decide +kernel
theorem dX2_init_26 : decode cX2_init 26 = .ok (.new 9, 3) := by decide +kernel
theorem dX2_init_29 : decode cX2_init 29 = .ok (.dup, 1) := by decide +kernel
theorem dX2_init_30 : decode cX2_init 30 = .ok (.invokespecial 17, 3) := by decide +kernel
theorem dX2_init_33 : decode cX2_init 33 = .ok (.aastore, 1) := by decide +kernel
theorem dX2_init_34 : decode cX2_init 34 = .ok (.iinc 1 1, 3) := by decide +kernel
theorem dX2_init_37 : decode cX2_init 37 = .ok (.goto (-22), 3) := by decide +kernel
theorem dX2_init_40 : decode cX2_init 40 = .ok (.return_, 1) := by decide +kernel
-- History()
set_option maxHeartbeats 4000000 in
set_option maxRecDepth 100000 in
theorem c_X2_init {l : Launch} {G : Gc} (qh : Nat)  : Cv l yX2_init cX2_init 2 2 33 256 G [.ref qh] [(qh, .inr (2, [.null, .int 0, .int 0]))] (fun (u9 : va_W) => ∃ (hk : Nat) (hf : Nat → Option Nat) (hs : Nat) (hpictures : Nat) (hshown : Nat) (hsighed : Nat), u9 = [(qh, .inr (2, [.ref hk, .int 0, .int 0])), (hk, eSt G 8 hf), (hs, .inr (7, [.int 0, .int 0, .int 0, .int 0, .int 0, .int 0, .int 0, .int 0, .ref hpictures, .ref hshown, .ref hsighed])), (hpictures, eI G 6 (fun _ => 0)), (hshown, eI G 6 (fun _ => 0)), (hsighed, eI G 8 (fun _ => 0))] ∧ hf 0 = some hs) := by
  refine Cv.of (by decide) (Nat.le_of_ble_eq_true rfl) ?_
  intro p e s m below meth c ls A B hw hl
  have C : CallFix p m c cX2_init 2 s _ gw "LanternState$History" := B.1
  have hl : lv_has ls 2 [(0, .ref qh)] := hl
  refine lv_aload_n C.1 C.2.1 dX2_init_0 rfl (lv_at hl 0 rfl) ?_
  refine x_objInit C kw299 hl.1 (Nat.le_of_ble_eq_true rfl) (Nat.le_of_ble_eq_true rfl) dX2_init_1 ?_
  refine lv_aload_n C.1 C.2.1 dX2_init_4 rfl (lv_at hl 0 rfl) ?_
  refine lv_bipush (v := 8) C.1 C.2.1 dX2_init_5 (by decide) ?_
  refine x_newq (N := 8) C hw 6 rfl kw300 hw.1.2.2.2.1 (by decide) (by decide) (Nat.le_of_ble_eq_true rfl) (Nat.le_of_ble_eq_true rfl) (Nat.le_of_ble_eq_true rfl) dX2_init_7 (fun q1 H hw => ?_)
  have hw : Wd G s A [(qh, .inr (2, [.null, .int 0, .int 0])), (q1, eSt G 8 (fun _ => none))] H _ := hw
  refine W.widen (k := 1) (n := 8) (Nat.le_of_ble_eq_true rfl) (Nat.le_of_ble_eq_true rfl) ?_
  refine x_putF (w' := [(qh, .inr (2, [.ref q1, .int 0, .int 0])), (q1, eSt G 8 (fun _ => none))]) C hw iwX2 tyX2_ok nmX2 B.2.2.2 2 rfl 0 rfl 0 (by decide) kw303 rfl rfl rfl rfl (Nat.le_of_ble_eq_true rfl) rfl dX2_init_10 (fun H locs hw => ?_)
  refine lv_iconst (v := 0) C.1 C.2.1 dX2_init_13 (by decide) ?_
  refine lv_istore_n (lv' := [(1, .int 0), (0, .ref qh)]) C.1 C.2.1 dX2_init_14 rfl hl (by decide) rfl (fun ls hl => ?_)
  refine lv_iload_n C.1 C.2.1 dX2_init_15 rfl (lv_at hl 0 rfl) ?_
  refine lv_bipush (v := 8) C.1 C.2.1 dX2_init_16 (by decide) ?_
  refine lv_icmp_ge (tgt := 40) C.1 C.2.1 dX2_init_18 (by decide) (fun h9 => absurd h9 (by decide)) (fun _ => ?_)
  refine lv_aload_n C.1 C.2.1 dX2_init_21 rfl (lv_at hl 1 rfl) ?_
  refine x_get C hw iwX2 2 rfl 0 rfl 0 (by decide) kw303 rfl dX2_init_22 ?_
  refine lv_iload_n C.1 C.2.1 dX2_init_25 rfl (lv_at hl 0 rfl) ?_
  refine x_new (fs := [.int 0, .int 0, .int 0, .int 0, .int 0, .int 0, .int 0, .int 0, .null, .null, .null]) C hw iwX8 tyX8_ok 7 rfl kw300 kw232 kw8 (by decide +kernel) (Nat.le_of_ble_eq_true rfl) (Nat.le_of_ble_eq_true rfl) dX2_init_26 (fun q2 H hw => ?_)
  have hw : Wd G s A [(qh, .inr (2, [.ref q1, .int 0, .int 0])), (q1, eSt G 8 (fun _ => none)), (q2, .inr (7, [.int 0, .int 0, .int 0, .int 0, .int 0, .int 0, .int 0, .int 0, .null, .null, .null]))] H _ := hw
  refine W.widen (k := 2) (n := 19) (Nat.le_of_ble_eq_true rfl) (Nat.le_of_ble_eq_true rfl) ?_
  refine lv_dup C.1 C.2.1 dX2_init_29 rfl ?_
  refine x_callvIN (As := []) (rest := [.ref q2, .int 0, .ref q1]) (wr := [(qh, .inr (2, [.ref q1, .int 0, .int 0])), (q1, eSt G 8 (fun _ => none))]) C hw (c_X8_init q2) mwX8_init (nst2 hw.1) [2] [0, 1] rfl rfl rfl rfl (by decide) rfl hl.1 rfl (Nat.le_of_ble_eq_true rfl) ⟨(Nat.le_of_ble_eq_true rfl), (Nat.le_of_ble_eq_true rfl)⟩ ⟨(Nat.le_of_ble_eq_true rfl), (Nat.le_of_ble_eq_true rfl)⟩ dX2_init_30 (fun  u9 H locs hp9 hw => ?_)
  obtain ⟨apictures_3, ashown_4, asighed_5, rfl⟩ := hp9
  have hw : Wd G s A [(qh, .inr (2, [.ref q1, .int 0, .int 0])), (q1, eSt G 8 (fun _ => none)), (q2, .inr (7, [.int 0, .int 0, .int 0, .int 0, .int 0, .int 0, .int 0, .int 0, .ref apictures_3, .ref ashown_4, .ref asighed_5])), (apictures_3, eI G 6 (fun _ => 0)), (ashown_4, eI G 6 (fun _ => 0)), (asighed_5, eI G 8 (fun _ => 0))] H _ := hw
  refine W.widen (k := 5) (n := 39) (Nat.le_of_ble_eq_true rfl) (Nat.le_of_ble_eq_true rfl) ?_
  refine x_astSt (f' := (va_up (fun _ => none) 0 (some q2))) (w' := [(qh, .inr (2, [.ref q1, .int 0, .int 0])), (q1, eSt G 8 (va_up (fun _ => none) 0 (some q2))), (q2, .inr (7, [.int 0, .int 0, .int 0, .int 0, .int 0, .int 0, .int 0, .int 0, .ref apictures_3, .ref ashown_4, .ref asighed_5])), (apictures_3, eI G 6 (fun _ => 0)), (ashown_4, eI G 6 (fun _ => 0)), (asighed_5, eI G 8 (fun _ => 0))]) C hw 1 2 rfl rfl (x_in rfl) rfl rfl dX2_init_33 (fun H locs hw => ?_)
  refine lv_iinc (v := 1) (lv' := [(1, .int 1), (0, .ref qh)]) C.1 C.2.1 dX2_init_34 hl (k := 0) rfl (by decide) (by decide) rfl (fun ls hl => ?_)
  refine lv_goto (tgt := 15) C.1 C.2.1 dX2_init_37 (by decide) ?_
  refine lv_iload_n C.1 C.2.1 dX2_init_15 rfl (lv_at hl 0 rfl) ?_
  refine lv_bipush (v := 8) C.1 C.2.1 dX2_init_16 (by decide) ?_
  refine lv_icmp_ge (tgt := 40) C.1 C.2.1 dX2_init_18 (by decide) (fun h9 => absurd h9 (by decide)) (fun _ => ?_)
  refine lv_aload_n C.1 C.2.1 dX2_init_21 rfl (lv_at hl 1 rfl) ?_
  refine x_get C hw iwX2 2 rfl 0 rfl 0 (by decide) kw303 rfl dX2_init_22 ?_
  refine lv_iload_n C.1 C.2.1 dX2_init_25 rfl (lv_at hl 0 rfl) ?_
  refine x_new (fs := [.int 0, .int 0, .int 0, .int 0, .int 0, .int 0, .int 0, .int 0, .null, .null, .null]) C hw iwX8 tyX8_ok 7 rfl kw300 kw232 kw8 (by decide +kernel) (Nat.le_of_ble_eq_true rfl) (Nat.le_of_ble_eq_true rfl) dX2_init_26 (fun q6 H hw => ?_)
  have hw : Wd G s A [(qh, .inr (2, [.ref q1, .int 0, .int 0])), (q1, eSt G 8 (va_up (fun _ => none) 0 (some q2))), (q2, .inr (7, [.int 0, .int 0, .int 0, .int 0, .int 0, .int 0, .int 0, .int 0, .ref apictures_3, .ref ashown_4, .ref asighed_5])), (apictures_3, eI G 6 (fun _ => 0)), (ashown_4, eI G 6 (fun _ => 0)), (asighed_5, eI G 8 (fun _ => 0)), (q6, .inr (7, [.int 0, .int 0, .int 0, .int 0, .int 0, .int 0, .int 0, .int 0, .null, .null, .null]))] H _ := hw
  refine W.widen (k := 6) (n := 50) (Nat.le_of_ble_eq_true rfl) (Nat.le_of_ble_eq_true rfl) ?_
  refine lv_dup C.1 C.2.1 dX2_init_29 rfl ?_
  refine x_callvIN (As := []) (rest := [.ref q6, .int 1, .ref q1]) (wr := [(qh, .inr (2, [.ref q1, .int 0, .int 0])), (q1, eSt G 8 (va_up (fun _ => none) 0 (some q2))), (q2, .inr (7, [.int 0, .int 0, .int 0, .int 0, .int 0, .int 0, .int 0, .int 0, .ref apictures_3, .ref ashown_4, .ref asighed_5])), (apictures_3, eI G 6 (fun _ => 0)), (ashown_4, eI G 6 (fun _ => 0)), (asighed_5, eI G 8 (fun _ => 0))]) C hw (c_X8_init q6) mwX8_init (nst2 hw.1) [6] [0, 1, 2, 3, 4, 5] rfl rfl rfl rfl (by decide) rfl hl.1 rfl (Nat.le_of_ble_eq_true rfl) ⟨(Nat.le_of_ble_eq_true rfl), (Nat.le_of_ble_eq_true rfl)⟩ ⟨(Nat.le_of_ble_eq_true rfl), (Nat.le_of_ble_eq_true rfl)⟩ dX2_init_30 (fun  u9 H locs hp9 hw => ?_)
  obtain ⟨apictures_7, ashown_8, asighed_9, rfl⟩ := hp9
  have hw : Wd G s A [(qh, .inr (2, [.ref q1, .int 0, .int 0])), (q1, eSt G 8 (va_up (fun _ => none) 0 (some q2))), (q2, .inr (7, [.int 0, .int 0, .int 0, .int 0, .int 0, .int 0, .int 0, .int 0, .ref apictures_3, .ref ashown_4, .ref asighed_5])), (apictures_3, eI G 6 (fun _ => 0)), (ashown_4, eI G 6 (fun _ => 0)), (asighed_5, eI G 8 (fun _ => 0)), (q6, .inr (7, [.int 0, .int 0, .int 0, .int 0, .int 0, .int 0, .int 0, .int 0, .ref apictures_7, .ref ashown_8, .ref asighed_9])), (apictures_7, eI G 6 (fun _ => 0)), (ashown_8, eI G 6 (fun _ => 0)), (asighed_9, eI G 8 (fun _ => 0))] H _ := hw
  refine W.widen (k := 9) (n := 70) (Nat.le_of_ble_eq_true rfl) (Nat.le_of_ble_eq_true rfl) ?_
  refine x_astSt (f' := (va_up (va_up (fun _ => none) 0 (some q2)) 1 (some q6))) (w' := [(qh, .inr (2, [.ref q1, .int 0, .int 0])), (q1, eSt G 8 (va_up (va_up (fun _ => none) 0 (some q2)) 1 (some q6))), (q2, .inr (7, [.int 0, .int 0, .int 0, .int 0, .int 0, .int 0, .int 0, .int 0, .ref apictures_3, .ref ashown_4, .ref asighed_5])), (apictures_3, eI G 6 (fun _ => 0)), (ashown_4, eI G 6 (fun _ => 0)), (asighed_5, eI G 8 (fun _ => 0)), (q6, .inr (7, [.int 0, .int 0, .int 0, .int 0, .int 0, .int 0, .int 0, .int 0, .ref apictures_7, .ref ashown_8, .ref asighed_9])), (apictures_7, eI G 6 (fun _ => 0)), (ashown_8, eI G 6 (fun _ => 0)), (asighed_9, eI G 8 (fun _ => 0))]) C hw 1 6 rfl rfl (x_in rfl) rfl rfl dX2_init_33 (fun H locs hw => ?_)
  refine lv_iinc (v := 2) (lv' := [(1, .int 2), (0, .ref qh)]) C.1 C.2.1 dX2_init_34 hl (k := 0) rfl (by decide) (by decide) rfl (fun ls hl => ?_)
  refine lv_goto (tgt := 15) C.1 C.2.1 dX2_init_37 (by decide) ?_
  refine lv_iload_n C.1 C.2.1 dX2_init_15 rfl (lv_at hl 0 rfl) ?_
  refine lv_bipush (v := 8) C.1 C.2.1 dX2_init_16 (by decide) ?_
  refine lv_icmp_ge (tgt := 40) C.1 C.2.1 dX2_init_18 (by decide) (fun h9 => absurd h9 (by decide)) (fun _ => ?_)
  refine lv_aload_n C.1 C.2.1 dX2_init_21 rfl (lv_at hl 1 rfl) ?_
  refine x_get C hw iwX2 2 rfl 0 rfl 0 (by decide) kw303 rfl dX2_init_22 ?_
  refine lv_iload_n C.1 C.2.1 dX2_init_25 rfl (lv_at hl 0 rfl) ?_
  refine x_new (fs := [.int 0, .int 0, .int 0, .int 0, .int 0, .int 0, .int 0, .int 0, .null, .null, .null]) C hw iwX8 tyX8_ok 7 rfl kw300 kw232 kw8 (by decide +kernel) (Nat.le_of_ble_eq_true rfl) (Nat.le_of_ble_eq_true rfl) dX2_init_26 (fun q10 H hw => ?_)
  have hw : Wd G s A [(qh, .inr (2, [.ref q1, .int 0, .int 0])), (q1, eSt G 8 (va_up (va_up (fun _ => none) 0 (some q2)) 1 (some q6))), (q2, .inr (7, [.int 0, .int 0, .int 0, .int 0, .int 0, .int 0, .int 0, .int 0, .ref apictures_3, .ref ashown_4, .ref asighed_5])), (apictures_3, eI G 6 (fun _ => 0)), (ashown_4, eI G 6 (fun _ => 0)), (asighed_5, eI G 8 (fun _ => 0)), (q6, .inr (7, [.int 0, .int 0, .int 0, .int 0, .int 0, .int 0, .int 0, .int 0, .ref apictures_7, .ref ashown_8, .ref asighed_9])), (apictures_7, eI G 6 (fun _ => 0)), (ashown_8, eI G 6 (fun _ => 0)), (asighed_9, eI G 8 (fun _ => 0)), (q10, .inr (7, [.int 0, .int 0, .int 0, .int 0, .int 0, .int 0, .int 0, .int 0, .null, .null, .null]))] H _ := hw
  refine W.widen (k := 10) (n := 81) (Nat.le_of_ble_eq_true rfl) (Nat.le_of_ble_eq_true rfl) ?_
  refine lv_dup C.1 C.2.1 dX2_init_29 rfl ?_
  refine x_callvIN (As := []) (rest := [.ref q10, .int 2, .ref q1]) (wr := [(qh, .inr (2, [.ref q1, .int 0, .int 0])), (q1, eSt G 8 (va_up (va_up (fun _ => none) 0 (some q2)) 1 (some q6))), (q2, .inr (7, [.int 0, .int 0, .int 0, .int 0, .int 0, .int 0, .int 0, .int 0, .ref apictures_3, .ref ashown_4, .ref asighed_5])), (apictures_3, eI G 6 (fun _ => 0)), (ashown_4, eI G 6 (fun _ => 0)), (asighed_5, eI G 8 (fun _ => 0))]) C hw (c_X8_init q10) mwX8_init (nst2 hw.1) [10] [0, 1, 2, 3, 4, 5] rfl rfl rfl rfl (by decide) rfl hl.1 rfl (Nat.le_of_ble_eq_true rfl) ⟨(Nat.le_of_ble_eq_true rfl), (Nat.le_of_ble_eq_true rfl)⟩ ⟨(Nat.le_of_ble_eq_true rfl), (Nat.le_of_ble_eq_true rfl)⟩ dX2_init_30 (fun  u9 H locs hp9 hw => ?_)
  obtain ⟨apictures_11, ashown_12, asighed_13, rfl⟩ := hp9
  have hw : Wd G s A [(qh, .inr (2, [.ref q1, .int 0, .int 0])), (q1, eSt G 8 (va_up (va_up (fun _ => none) 0 (some q2)) 1 (some q6))), (q2, .inr (7, [.int 0, .int 0, .int 0, .int 0, .int 0, .int 0, .int 0, .int 0, .ref apictures_3, .ref ashown_4, .ref asighed_5])), (apictures_3, eI G 6 (fun _ => 0)), (ashown_4, eI G 6 (fun _ => 0)), (asighed_5, eI G 8 (fun _ => 0)), (q10, .inr (7, [.int 0, .int 0, .int 0, .int 0, .int 0, .int 0, .int 0, .int 0, .ref apictures_11, .ref ashown_12, .ref asighed_13])), (apictures_11, eI G 6 (fun _ => 0)), (ashown_12, eI G 6 (fun _ => 0)), (asighed_13, eI G 8 (fun _ => 0))] H _ := hw
  refine W.widen (k := 13) (n := 101) (Nat.le_of_ble_eq_true rfl) (Nat.le_of_ble_eq_true rfl) ?_
  refine x_astSt (f' := (va_up (va_up (va_up (fun _ => none) 0 (some q2)) 1 (some q6)) 2 (some q10))) (w' := [(qh, .inr (2, [.ref q1, .int 0, .int 0])), (q1, eSt G 8 (va_up (va_up (va_up (fun _ => none) 0 (some q2)) 1 (some q6)) 2 (some q10))), (q2, .inr (7, [.int 0, .int 0, .int 0, .int 0, .int 0, .int 0, .int 0, .int 0, .ref apictures_3, .ref ashown_4, .ref asighed_5])), (apictures_3, eI G 6 (fun _ => 0)), (ashown_4, eI G 6 (fun _ => 0)), (asighed_5, eI G 8 (fun _ => 0)), (q10, .inr (7, [.int 0, .int 0, .int 0, .int 0, .int 0, .int 0, .int 0, .int 0, .ref apictures_11, .ref ashown_12, .ref asighed_13])), (apictures_11, eI G 6 (fun _ => 0)), (ashown_12, eI G 6 (fun _ => 0)), (asighed_13, eI G 8 (fun _ => 0))]) C hw 1 6 rfl rfl (x_in rfl) rfl rfl dX2_init_33 (fun H locs hw => ?_)
  refine lv_iinc (v := 3) (lv' := [(1, .int 3), (0, .ref qh)]) C.1 C.2.1 dX2_init_34 hl (k := 0) rfl (by decide) (by decide) rfl (fun ls hl => ?_)
  refine lv_goto (tgt := 15) C.1 C.2.1 dX2_init_37 (by decide) ?_
  refine lv_iload_n C.1 C.2.1 dX2_init_15 rfl (lv_at hl 0 rfl) ?_
  refine lv_bipush (v := 8) C.1 C.2.1 dX2_init_16 (by decide) ?_
  refine lv_icmp_ge (tgt := 40) C.1 C.2.1 dX2_init_18 (by decide) (fun h9 => absurd h9 (by decide)) (fun _ => ?_)
  refine lv_aload_n C.1 C.2.1 dX2_init_21 rfl (lv_at hl 1 rfl) ?_
  refine x_get C hw iwX2 2 rfl 0 rfl 0 (by decide) kw303 rfl dX2_init_22 ?_
  refine lv_iload_n C.1 C.2.1 dX2_init_25 rfl (lv_at hl 0 rfl) ?_
  refine x_new (fs := [.int 0, .int 0, .int 0, .int 0, .int 0, .int 0, .int 0, .int 0, .null, .null, .null]) C hw iwX8 tyX8_ok 7 rfl kw300 kw232 kw8 (by decide +kernel) (Nat.le_of_ble_eq_true rfl) (Nat.le_of_ble_eq_true rfl) dX2_init_26 (fun q14 H hw => ?_)
  have hw : Wd G s A [(qh, .inr (2, [.ref q1, .int 0, .int 0])), (q1, eSt G 8 (va_up (va_up (va_up (fun _ => none) 0 (some q2)) 1 (some q6)) 2 (some q10))), (q2, .inr (7, [.int 0, .int 0, .int 0, .int 0, .int 0, .int 0, .int 0, .int 0, .ref apictures_3, .ref ashown_4, .ref asighed_5])), (apictures_3, eI G 6 (fun _ => 0)), (ashown_4, eI G 6 (fun _ => 0)), (asighed_5, eI G 8 (fun _ => 0)), (q10, .inr (7, [.int 0, .int 0, .int 0, .int 0, .int 0, .int 0, .int 0, .int 0, .ref apictures_11, .ref ashown_12, .ref asighed_13])), (apictures_11, eI G 6 (fun _ => 0)), (ashown_12, eI G 6 (fun _ => 0)), (asighed_13, eI G 8 (fun _ => 0)), (q14, .inr (7, [.int 0, .int 0, .int 0, .int 0, .int 0, .int 0, .int 0, .int 0, .null, .null, .null]))] H _ := hw
  refine W.widen (k := 14) (n := 112) (Nat.le_of_ble_eq_true rfl) (Nat.le_of_ble_eq_true rfl) ?_
  refine lv_dup C.1 C.2.1 dX2_init_29 rfl ?_
  refine x_callvIN (As := []) (rest := [.ref q14, .int 3, .ref q1]) (wr := [(qh, .inr (2, [.ref q1, .int 0, .int 0])), (q1, eSt G 8 (va_up (va_up (va_up (fun _ => none) 0 (some q2)) 1 (some q6)) 2 (some q10))), (q2, .inr (7, [.int 0, .int 0, .int 0, .int 0, .int 0, .int 0, .int 0, .int 0, .ref apictures_3, .ref ashown_4, .ref asighed_5])), (apictures_3, eI G 6 (fun _ => 0)), (ashown_4, eI G 6 (fun _ => 0)), (asighed_5, eI G 8 (fun _ => 0))]) C hw (c_X8_init q14) mwX8_init (nst2 hw.1) [10] [0, 1, 2, 3, 4, 5] rfl rfl rfl rfl (by decide) rfl hl.1 rfl (Nat.le_of_ble_eq_true rfl) ⟨(Nat.le_of_ble_eq_true rfl), (Nat.le_of_ble_eq_true rfl)⟩ ⟨(Nat.le_of_ble_eq_true rfl), (Nat.le_of_ble_eq_true rfl)⟩ dX2_init_30 (fun  u9 H locs hp9 hw => ?_)
  obtain ⟨apictures_15, ashown_16, asighed_17, rfl⟩ := hp9
  have hw : Wd G s A [(qh, .inr (2, [.ref q1, .int 0, .int 0])), (q1, eSt G 8 (va_up (va_up (va_up (fun _ => none) 0 (some q2)) 1 (some q6)) 2 (some q10))), (q2, .inr (7, [.int 0, .int 0, .int 0, .int 0, .int 0, .int 0, .int 0, .int 0, .ref apictures_3, .ref ashown_4, .ref asighed_5])), (apictures_3, eI G 6 (fun _ => 0)), (ashown_4, eI G 6 (fun _ => 0)), (asighed_5, eI G 8 (fun _ => 0)), (q14, .inr (7, [.int 0, .int 0, .int 0, .int 0, .int 0, .int 0, .int 0, .int 0, .ref apictures_15, .ref ashown_16, .ref asighed_17])), (apictures_15, eI G 6 (fun _ => 0)), (ashown_16, eI G 6 (fun _ => 0)), (asighed_17, eI G 8 (fun _ => 0))] H _ := hw
  refine W.widen (k := 17) (n := 132) (Nat.le_of_ble_eq_true rfl) (Nat.le_of_ble_eq_true rfl) ?_
  refine x_astSt (f' := (va_up (va_up (va_up (va_up (fun _ => none) 0 (some q2)) 1 (some q6)) 2 (some q10)) 3 (some q14))) (w' := [(qh, .inr (2, [.ref q1, .int 0, .int 0])), (q1, eSt G 8 (va_up (va_up (va_up (va_up (fun _ => none) 0 (some q2)) 1 (some q6)) 2 (some q10)) 3 (some q14))), (q2, .inr (7, [.int 0, .int 0, .int 0, .int 0, .int 0, .int 0, .int 0, .int 0, .ref apictures_3, .ref ashown_4, .ref asighed_5])), (apictures_3, eI G 6 (fun _ => 0)), (ashown_4, eI G 6 (fun _ => 0)), (asighed_5, eI G 8 (fun _ => 0)), (q14, .inr (7, [.int 0, .int 0, .int 0, .int 0, .int 0, .int 0, .int 0, .int 0, .ref apictures_15, .ref ashown_16, .ref asighed_17])), (apictures_15, eI G 6 (fun _ => 0)), (ashown_16, eI G 6 (fun _ => 0)), (asighed_17, eI G 8 (fun _ => 0))]) C hw 1 6 rfl rfl (x_in rfl) rfl rfl dX2_init_33 (fun H locs hw => ?_)
  refine lv_iinc (v := 4) (lv' := [(1, .int 4), (0, .ref qh)]) C.1 C.2.1 dX2_init_34 hl (k := 0) rfl (by decide) (by decide) rfl (fun ls hl => ?_)
  refine lv_goto (tgt := 15) C.1 C.2.1 dX2_init_37 (by decide) ?_
  refine lv_iload_n C.1 C.2.1 dX2_init_15 rfl (lv_at hl 0 rfl) ?_
  refine lv_bipush (v := 8) C.1 C.2.1 dX2_init_16 (by decide) ?_
  refine lv_icmp_ge (tgt := 40) C.1 C.2.1 dX2_init_18 (by decide) (fun h9 => absurd h9 (by decide)) (fun _ => ?_)
  refine lv_aload_n C.1 C.2.1 dX2_init_21 rfl (lv_at hl 1 rfl) ?_
  refine x_get C hw iwX2 2 rfl 0 rfl 0 (by decide) kw303 rfl dX2_init_22 ?_
  refine lv_iload_n C.1 C.2.1 dX2_init_25 rfl (lv_at hl 0 rfl) ?_
  refine x_new (fs := [.int 0, .int 0, .int 0, .int 0, .int 0, .int 0, .int 0, .int 0, .null, .null, .null]) C hw iwX8 tyX8_ok 7 rfl kw300 kw232 kw8 (by decide +kernel) (Nat.le_of_ble_eq_true rfl) (Nat.le_of_ble_eq_true rfl) dX2_init_26 (fun q18 H hw => ?_)
  have hw : Wd G s A [(qh, .inr (2, [.ref q1, .int 0, .int 0])), (q1, eSt G 8 (va_up (va_up (va_up (va_up (fun _ => none) 0 (some q2)) 1 (some q6)) 2 (some q10)) 3 (some q14))), (q2, .inr (7, [.int 0, .int 0, .int 0, .int 0, .int 0, .int 0, .int 0, .int 0, .ref apictures_3, .ref ashown_4, .ref asighed_5])), (apictures_3, eI G 6 (fun _ => 0)), (ashown_4, eI G 6 (fun _ => 0)), (asighed_5, eI G 8 (fun _ => 0)), (q14, .inr (7, [.int 0, .int 0, .int 0, .int 0, .int 0, .int 0, .int 0, .int 0, .ref apictures_15, .ref ashown_16, .ref asighed_17])), (apictures_15, eI G 6 (fun _ => 0)), (ashown_16, eI G 6 (fun _ => 0)), (asighed_17, eI G 8 (fun _ => 0)), (q18, .inr (7, [.int 0, .int 0, .int 0, .int 0, .int 0, .int 0, .int 0, .int 0, .null, .null, .null]))] H _ := hw
  refine W.widen (k := 18) (n := 143) (Nat.le_of_ble_eq_true rfl) (Nat.le_of_ble_eq_true rfl) ?_
  refine lv_dup C.1 C.2.1 dX2_init_29 rfl ?_
  refine x_callvIN (As := []) (rest := [.ref q18, .int 4, .ref q1]) (wr := [(qh, .inr (2, [.ref q1, .int 0, .int 0])), (q1, eSt G 8 (va_up (va_up (va_up (va_up (fun _ => none) 0 (some q2)) 1 (some q6)) 2 (some q10)) 3 (some q14))), (q2, .inr (7, [.int 0, .int 0, .int 0, .int 0, .int 0, .int 0, .int 0, .int 0, .ref apictures_3, .ref ashown_4, .ref asighed_5])), (apictures_3, eI G 6 (fun _ => 0)), (ashown_4, eI G 6 (fun _ => 0)), (asighed_5, eI G 8 (fun _ => 0))]) C hw (c_X8_init q18) mwX8_init (nst2 hw.1) [10] [0, 1, 2, 3, 4, 5] rfl rfl rfl rfl (by decide) rfl hl.1 rfl (Nat.le_of_ble_eq_true rfl) ⟨(Nat.le_of_ble_eq_true rfl), (Nat.le_of_ble_eq_true rfl)⟩ ⟨(Nat.le_of_ble_eq_true rfl), (Nat.le_of_ble_eq_true rfl)⟩ dX2_init_30 (fun  u9 H locs hp9 hw => ?_)
  obtain ⟨apictures_19, ashown_20, asighed_21, rfl⟩ := hp9
  have hw : Wd G s A [(qh, .inr (2, [.ref q1, .int 0, .int 0])), (q1, eSt G 8 (va_up (va_up (va_up (va_up (fun _ => none) 0 (some q2)) 1 (some q6)) 2 (some q10)) 3 (some q14))), (q2, .inr (7, [.int 0, .int 0, .int 0, .int 0, .int 0, .int 0, .int 0, .int 0, .ref apictures_3, .ref ashown_4, .ref asighed_5])), (apictures_3, eI G 6 (fun _ => 0)), (ashown_4, eI G 6 (fun _ => 0)), (asighed_5, eI G 8 (fun _ => 0)), (q18, .inr (7, [.int 0, .int 0, .int 0, .int 0, .int 0, .int 0, .int 0, .int 0, .ref apictures_19, .ref ashown_20, .ref asighed_21])), (apictures_19, eI G 6 (fun _ => 0)), (ashown_20, eI G 6 (fun _ => 0)), (asighed_21, eI G 8 (fun _ => 0))] H _ := hw
  refine W.widen (k := 21) (n := 163) (Nat.le_of_ble_eq_true rfl) (Nat.le_of_ble_eq_true rfl) ?_
  refine x_astSt (f' := (va_up (va_up (va_up (va_up (va_up (fun _ => none) 0 (some q2)) 1 (some q6)) 2 (some q10)) 3 (some q14)) 4 (some q18))) (w' := [(qh, .inr (2, [.ref q1, .int 0, .int 0])), (q1, eSt G 8 (va_up (va_up (va_up (va_up (va_up (fun _ => none) 0 (some q2)) 1 (some q6)) 2 (some q10)) 3 (some q14)) 4 (some q18))), (q2, .inr (7, [.int 0, .int 0, .int 0, .int 0, .int 0, .int 0, .int 0, .int 0, .ref apictures_3, .ref ashown_4, .ref asighed_5])), (apictures_3, eI G 6 (fun _ => 0)), (ashown_4, eI G 6 (fun _ => 0)), (asighed_5, eI G 8 (fun _ => 0)), (q18, .inr (7, [.int 0, .int 0, .int 0, .int 0, .int 0, .int 0, .int 0, .int 0, .ref apictures_19, .ref ashown_20, .ref asighed_21])), (apictures_19, eI G 6 (fun _ => 0)), (ashown_20, eI G 6 (fun _ => 0)), (asighed_21, eI G 8 (fun _ => 0))]) C hw 1 6 rfl rfl (x_in rfl) rfl rfl dX2_init_33 (fun H locs hw => ?_)
  refine lv_iinc (v := 5) (lv' := [(1, .int 5), (0, .ref qh)]) C.1 C.2.1 dX2_init_34 hl (k := 0) rfl (by decide) (by decide) rfl (fun ls hl => ?_)
  refine lv_goto (tgt := 15) C.1 C.2.1 dX2_init_37 (by decide) ?_
  refine lv_iload_n C.1 C.2.1 dX2_init_15 rfl (lv_at hl 0 rfl) ?_
  refine lv_bipush (v := 8) C.1 C.2.1 dX2_init_16 (by decide) ?_
  refine lv_icmp_ge (tgt := 40) C.1 C.2.1 dX2_init_18 (by decide) (fun h9 => absurd h9 (by decide)) (fun _ => ?_)
  refine lv_aload_n C.1 C.2.1 dX2_init_21 rfl (lv_at hl 1 rfl) ?_
  refine x_get C hw iwX2 2 rfl 0 rfl 0 (by decide) kw303 rfl dX2_init_22 ?_
  refine lv_iload_n C.1 C.2.1 dX2_init_25 rfl (lv_at hl 0 rfl) ?_
  refine x_new (fs := [.int 0, .int 0, .int 0, .int 0, .int 0, .int 0, .int 0, .int 0, .null, .null, .null]) C hw iwX8 tyX8_ok 7 rfl kw300 kw232 kw8 (by decide +kernel) (Nat.le_of_ble_eq_true rfl) (Nat.le_of_ble_eq_true rfl) dX2_init_26 (fun q22 H hw => ?_)
  have hw : Wd G s A [(qh, .inr (2, [.ref q1, .int 0, .int 0])), (q1, eSt G 8 (va_up (va_up (va_up (va_up (va_up (fun _ => none) 0 (some q2)) 1 (some q6)) 2 (some q10)) 3 (some q14)) 4 (some q18))), (q2, .inr (7, [.int 0, .int 0, .int 0, .int 0, .int 0, .int 0, .int 0, .int 0, .ref apictures_3, .ref ashown_4, .ref asighed_5])), (apictures_3, eI G 6 (fun _ => 0)), (ashown_4, eI G 6 (fun _ => 0)), (asighed_5, eI G 8 (fun _ => 0)), (q18, .inr (7, [.int 0, .int 0, .int 0, .int 0, .int 0, .int 0, .int 0, .int 0, .ref apictures_19, .ref ashown_20, .ref asighed_21])), (apictures_19, eI G 6 (fun _ => 0)), (ashown_20, eI G 6 (fun _ => 0)), (asighed_21, eI G 8 (fun _ => 0)), (q22, .inr (7, [.int 0, .int 0, .int 0, .int 0, .int 0, .int 0, .int 0, .int 0, .null, .null, .null]))] H _ := hw
  refine W.widen (k := 22) (n := 174) (Nat.le_of_ble_eq_true rfl) (Nat.le_of_ble_eq_true rfl) ?_
  refine lv_dup C.1 C.2.1 dX2_init_29 rfl ?_
  refine x_callvIN (As := []) (rest := [.ref q22, .int 5, .ref q1]) (wr := [(qh, .inr (2, [.ref q1, .int 0, .int 0])), (q1, eSt G 8 (va_up (va_up (va_up (va_up (va_up (fun _ => none) 0 (some q2)) 1 (some q6)) 2 (some q10)) 3 (some q14)) 4 (some q18))), (q2, .inr (7, [.int 0, .int 0, .int 0, .int 0, .int 0, .int 0, .int 0, .int 0, .ref apictures_3, .ref ashown_4, .ref asighed_5])), (apictures_3, eI G 6 (fun _ => 0)), (ashown_4, eI G 6 (fun _ => 0)), (asighed_5, eI G 8 (fun _ => 0))]) C hw (c_X8_init q22) mwX8_init (nst2 hw.1) [10] [0, 1, 2, 3, 4, 5] rfl rfl rfl rfl (by decide) rfl hl.1 rfl (Nat.le_of_ble_eq_true rfl) ⟨(Nat.le_of_ble_eq_true rfl), (Nat.le_of_ble_eq_true rfl)⟩ ⟨(Nat.le_of_ble_eq_true rfl), (Nat.le_of_ble_eq_true rfl)⟩ dX2_init_30 (fun  u9 H locs hp9 hw => ?_)
  obtain ⟨apictures_23, ashown_24, asighed_25, rfl⟩ := hp9
  have hw : Wd G s A [(qh, .inr (2, [.ref q1, .int 0, .int 0])), (q1, eSt G 8 (va_up (va_up (va_up (va_up (va_up (fun _ => none) 0 (some q2)) 1 (some q6)) 2 (some q10)) 3 (some q14)) 4 (some q18))), (q2, .inr (7, [.int 0, .int 0, .int 0, .int 0, .int 0, .int 0, .int 0, .int 0, .ref apictures_3, .ref ashown_4, .ref asighed_5])), (apictures_3, eI G 6 (fun _ => 0)), (ashown_4, eI G 6 (fun _ => 0)), (asighed_5, eI G 8 (fun _ => 0)), (q22, .inr (7, [.int 0, .int 0, .int 0, .int 0, .int 0, .int 0, .int 0, .int 0, .ref apictures_23, .ref ashown_24, .ref asighed_25])), (apictures_23, eI G 6 (fun _ => 0)), (ashown_24, eI G 6 (fun _ => 0)), (asighed_25, eI G 8 (fun _ => 0))] H _ := hw
  refine W.widen (k := 25) (n := 194) (Nat.le_of_ble_eq_true rfl) (Nat.le_of_ble_eq_true rfl) ?_
  refine x_astSt (f' := (va_up (va_up (va_up (va_up (va_up (va_up (fun _ => none) 0 (some q2)) 1 (some q6)) 2 (some q10)) 3 (some q14)) 4 (some q18)) 5 (some q22))) (w' := [(qh, .inr (2, [.ref q1, .int 0, .int 0])), (q1, eSt G 8 (va_up (va_up (va_up (va_up (va_up (va_up (fun _ => none) 0 (some q2)) 1 (some q6)) 2 (some q10)) 3 (some q14)) 4 (some q18)) 5 (some q22))), (q2, .inr (7, [.int 0, .int 0, .int 0, .int 0, .int 0, .int 0, .int 0, .int 0, .ref apictures_3, .ref ashown_4, .ref asighed_5])), (apictures_3, eI G 6 (fun _ => 0)), (ashown_4, eI G 6 (fun _ => 0)), (asighed_5, eI G 8 (fun _ => 0)), (q22, .inr (7, [.int 0, .int 0, .int 0, .int 0, .int 0, .int 0, .int 0, .int 0, .ref apictures_23, .ref ashown_24, .ref asighed_25])), (apictures_23, eI G 6 (fun _ => 0)), (ashown_24, eI G 6 (fun _ => 0)), (asighed_25, eI G 8 (fun _ => 0))]) C hw 1 6 rfl rfl (x_in rfl) rfl rfl dX2_init_33 (fun H locs hw => ?_)
  refine lv_iinc (v := 6) (lv' := [(1, .int 6), (0, .ref qh)]) C.1 C.2.1 dX2_init_34 hl (k := 0) rfl (by decide) (by decide) rfl (fun ls hl => ?_)
  refine lv_goto (tgt := 15) C.1 C.2.1 dX2_init_37 (by decide) ?_
  refine lv_iload_n C.1 C.2.1 dX2_init_15 rfl (lv_at hl 0 rfl) ?_
  refine lv_bipush (v := 8) C.1 C.2.1 dX2_init_16 (by decide) ?_
  refine lv_icmp_ge (tgt := 40) C.1 C.2.1 dX2_init_18 (by decide) (fun h9 => absurd h9 (by decide)) (fun _ => ?_)
  refine lv_aload_n C.1 C.2.1 dX2_init_21 rfl (lv_at hl 1 rfl) ?_
  refine x_get C hw iwX2 2 rfl 0 rfl 0 (by decide) kw303 rfl dX2_init_22 ?_
  refine lv_iload_n C.1 C.2.1 dX2_init_25 rfl (lv_at hl 0 rfl) ?_
  refine x_new (fs := [.int 0, .int 0, .int 0, .int 0, .int 0, .int 0, .int 0, .int 0, .null, .null, .null]) C hw iwX8 tyX8_ok 7 rfl kw300 kw232 kw8 (by decide +kernel) (Nat.le_of_ble_eq_true rfl) (Nat.le_of_ble_eq_true rfl) dX2_init_26 (fun q26 H hw => ?_)
  have hw : Wd G s A [(qh, .inr (2, [.ref q1, .int 0, .int 0])), (q1, eSt G 8 (va_up (va_up (va_up (va_up (va_up (va_up (fun _ => none) 0 (some q2)) 1 (some q6)) 2 (some q10)) 3 (some q14)) 4 (some q18)) 5 (some q22))), (q2, .inr (7, [.int 0, .int 0, .int 0, .int 0, .int 0, .int 0, .int 0, .int 0, .ref apictures_3, .ref ashown_4, .ref asighed_5])), (apictures_3, eI G 6 (fun _ => 0)), (ashown_4, eI G 6 (fun _ => 0)), (asighed_5, eI G 8 (fun _ => 0)), (q22, .inr (7, [.int 0, .int 0, .int 0, .int 0, .int 0, .int 0, .int 0, .int 0, .ref apictures_23, .ref ashown_24, .ref asighed_25])), (apictures_23, eI G 6 (fun _ => 0)), (ashown_24, eI G 6 (fun _ => 0)), (asighed_25, eI G 8 (fun _ => 0)), (q26, .inr (7, [.int 0, .int 0, .int 0, .int 0, .int 0, .int 0, .int 0, .int 0, .null, .null, .null]))] H _ := hw
  refine W.widen (k := 26) (n := 205) (Nat.le_of_ble_eq_true rfl) (Nat.le_of_ble_eq_true rfl) ?_
  refine lv_dup C.1 C.2.1 dX2_init_29 rfl ?_
  refine x_callvIN (As := []) (rest := [.ref q26, .int 6, .ref q1]) (wr := [(qh, .inr (2, [.ref q1, .int 0, .int 0])), (q1, eSt G 8 (va_up (va_up (va_up (va_up (va_up (va_up (fun _ => none) 0 (some q2)) 1 (some q6)) 2 (some q10)) 3 (some q14)) 4 (some q18)) 5 (some q22))), (q2, .inr (7, [.int 0, .int 0, .int 0, .int 0, .int 0, .int 0, .int 0, .int 0, .ref apictures_3, .ref ashown_4, .ref asighed_5])), (apictures_3, eI G 6 (fun _ => 0)), (ashown_4, eI G 6 (fun _ => 0)), (asighed_5, eI G 8 (fun _ => 0))]) C hw (c_X8_init q26) mwX8_init (nst2 hw.1) [10] [0, 1, 2, 3, 4, 5] rfl rfl rfl rfl (by decide) rfl hl.1 rfl (Nat.le_of_ble_eq_true rfl) ⟨(Nat.le_of_ble_eq_true rfl), (Nat.le_of_ble_eq_true rfl)⟩ ⟨(Nat.le_of_ble_eq_true rfl), (Nat.le_of_ble_eq_true rfl)⟩ dX2_init_30 (fun  u9 H locs hp9 hw => ?_)
  obtain ⟨apictures_27, ashown_28, asighed_29, rfl⟩ := hp9
  have hw : Wd G s A [(qh, .inr (2, [.ref q1, .int 0, .int 0])), (q1, eSt G 8 (va_up (va_up (va_up (va_up (va_up (va_up (fun _ => none) 0 (some q2)) 1 (some q6)) 2 (some q10)) 3 (some q14)) 4 (some q18)) 5 (some q22))), (q2, .inr (7, [.int 0, .int 0, .int 0, .int 0, .int 0, .int 0, .int 0, .int 0, .ref apictures_3, .ref ashown_4, .ref asighed_5])), (apictures_3, eI G 6 (fun _ => 0)), (ashown_4, eI G 6 (fun _ => 0)), (asighed_5, eI G 8 (fun _ => 0)), (q26, .inr (7, [.int 0, .int 0, .int 0, .int 0, .int 0, .int 0, .int 0, .int 0, .ref apictures_27, .ref ashown_28, .ref asighed_29])), (apictures_27, eI G 6 (fun _ => 0)), (ashown_28, eI G 6 (fun _ => 0)), (asighed_29, eI G 8 (fun _ => 0))] H _ := hw
  refine W.widen (k := 29) (n := 225) (Nat.le_of_ble_eq_true rfl) (Nat.le_of_ble_eq_true rfl) ?_
  refine x_astSt (f' := (va_up (va_up (va_up (va_up (va_up (va_up (va_up (fun _ => none) 0 (some q2)) 1 (some q6)) 2 (some q10)) 3 (some q14)) 4 (some q18)) 5 (some q22)) 6 (some q26))) (w' := [(qh, .inr (2, [.ref q1, .int 0, .int 0])), (q1, eSt G 8 (va_up (va_up (va_up (va_up (va_up (va_up (va_up (fun _ => none) 0 (some q2)) 1 (some q6)) 2 (some q10)) 3 (some q14)) 4 (some q18)) 5 (some q22)) 6 (some q26))), (q2, .inr (7, [.int 0, .int 0, .int 0, .int 0, .int 0, .int 0, .int 0, .int 0, .ref apictures_3, .ref ashown_4, .ref asighed_5])), (apictures_3, eI G 6 (fun _ => 0)), (ashown_4, eI G 6 (fun _ => 0)), (asighed_5, eI G 8 (fun _ => 0)), (q26, .inr (7, [.int 0, .int 0, .int 0, .int 0, .int 0, .int 0, .int 0, .int 0, .ref apictures_27, .ref ashown_28, .ref asighed_29])), (apictures_27, eI G 6 (fun _ => 0)), (ashown_28, eI G 6 (fun _ => 0)), (asighed_29, eI G 8 (fun _ => 0))]) C hw 1 6 rfl rfl (x_in rfl) rfl rfl dX2_init_33 (fun H locs hw => ?_)
  refine lv_iinc (v := 7) (lv' := [(1, .int 7), (0, .ref qh)]) C.1 C.2.1 dX2_init_34 hl (k := 0) rfl (by decide) (by decide) rfl (fun ls hl => ?_)
  refine lv_goto (tgt := 15) C.1 C.2.1 dX2_init_37 (by decide) ?_
  refine lv_iload_n C.1 C.2.1 dX2_init_15 rfl (lv_at hl 0 rfl) ?_
  refine lv_bipush (v := 8) C.1 C.2.1 dX2_init_16 (by decide) ?_
  refine lv_icmp_ge (tgt := 40) C.1 C.2.1 dX2_init_18 (by decide) (fun h9 => absurd h9 (by decide)) (fun _ => ?_)
  refine lv_aload_n C.1 C.2.1 dX2_init_21 rfl (lv_at hl 1 rfl) ?_
  refine x_get C hw iwX2 2 rfl 0 rfl 0 (by decide) kw303 rfl dX2_init_22 ?_
  refine lv_iload_n C.1 C.2.1 dX2_init_25 rfl (lv_at hl 0 rfl) ?_
  refine x_new (fs := [.int 0, .int 0, .int 0, .int 0, .int 0, .int 0, .int 0, .int 0, .null, .null, .null]) C hw iwX8 tyX8_ok 7 rfl kw300 kw232 kw8 (by decide +kernel) (Nat.le_of_ble_eq_true rfl) (Nat.le_of_ble_eq_true rfl) dX2_init_26 (fun q30 H hw => ?_)
  have hw : Wd G s A [(qh, .inr (2, [.ref q1, .int 0, .int 0])), (q1, eSt G 8 (va_up (va_up (va_up (va_up (va_up (va_up (va_up (fun _ => none) 0 (some q2)) 1 (some q6)) 2 (some q10)) 3 (some q14)) 4 (some q18)) 5 (some q22)) 6 (some q26))), (q2, .inr (7, [.int 0, .int 0, .int 0, .int 0, .int 0, .int 0, .int 0, .int 0, .ref apictures_3, .ref ashown_4, .ref asighed_5])), (apictures_3, eI G 6 (fun _ => 0)), (ashown_4, eI G 6 (fun _ => 0)), (asighed_5, eI G 8 (fun _ => 0)), (q26, .inr (7, [.int 0, .int 0, .int 0, .int 0, .int 0, .int 0, .int 0, .int 0, .ref apictures_27, .ref ashown_28, .ref asighed_29])), (apictures_27, eI G 6 (fun _ => 0)), (ashown_28, eI G 6 (fun _ => 0)), (asighed_29, eI G 8 (fun _ => 0)), (q30, .inr (7, [.int 0, .int 0, .int 0, .int 0, .int 0, .int 0, .int 0, .int 0, .null, .null, .null]))] H _ := hw
  refine W.widen (k := 30) (n := 236) (Nat.le_of_ble_eq_true rfl) (Nat.le_of_ble_eq_true rfl) ?_
  refine lv_dup C.1 C.2.1 dX2_init_29 rfl ?_
  refine x_callvIN (As := []) (rest := [.ref q30, .int 7, .ref q1]) (wr := [(qh, .inr (2, [.ref q1, .int 0, .int 0])), (q1, eSt G 8 (va_up (va_up (va_up (va_up (va_up (va_up (va_up (fun _ => none) 0 (some q2)) 1 (some q6)) 2 (some q10)) 3 (some q14)) 4 (some q18)) 5 (some q22)) 6 (some q26))), (q2, .inr (7, [.int 0, .int 0, .int 0, .int 0, .int 0, .int 0, .int 0, .int 0, .ref apictures_3, .ref ashown_4, .ref asighed_5])), (apictures_3, eI G 6 (fun _ => 0)), (ashown_4, eI G 6 (fun _ => 0)), (asighed_5, eI G 8 (fun _ => 0))]) C hw (c_X8_init q30) mwX8_init (nst2 hw.1) [10] [0, 1, 2, 3, 4, 5] rfl rfl rfl rfl (by decide) rfl hl.1 rfl (Nat.le_of_ble_eq_true rfl) ⟨(Nat.le_of_ble_eq_true rfl), (Nat.le_of_ble_eq_true rfl)⟩ ⟨(Nat.le_of_ble_eq_true rfl), (Nat.le_of_ble_eq_true rfl)⟩ dX2_init_30 (fun  u9 H locs hp9 hw => ?_)
  obtain ⟨apictures_31, ashown_32, asighed_33, rfl⟩ := hp9
  have hw : Wd G s A [(qh, .inr (2, [.ref q1, .int 0, .int 0])), (q1, eSt G 8 (va_up (va_up (va_up (va_up (va_up (va_up (va_up (fun _ => none) 0 (some q2)) 1 (some q6)) 2 (some q10)) 3 (some q14)) 4 (some q18)) 5 (some q22)) 6 (some q26))), (q2, .inr (7, [.int 0, .int 0, .int 0, .int 0, .int 0, .int 0, .int 0, .int 0, .ref apictures_3, .ref ashown_4, .ref asighed_5])), (apictures_3, eI G 6 (fun _ => 0)), (ashown_4, eI G 6 (fun _ => 0)), (asighed_5, eI G 8 (fun _ => 0)), (q30, .inr (7, [.int 0, .int 0, .int 0, .int 0, .int 0, .int 0, .int 0, .int 0, .ref apictures_31, .ref ashown_32, .ref asighed_33])), (apictures_31, eI G 6 (fun _ => 0)), (ashown_32, eI G 6 (fun _ => 0)), (asighed_33, eI G 8 (fun _ => 0))] H _ := hw
  refine W.widen (k := 33) (n := 256) (Nat.le_of_ble_eq_true rfl) (Nat.le_of_ble_eq_true rfl) ?_
  refine x_astSt (f' := (va_up (va_up (va_up (va_up (va_up (va_up (va_up (va_up (fun _ => none) 0 (some q2)) 1 (some q6)) 2 (some q10)) 3 (some q14)) 4 (some q18)) 5 (some q22)) 6 (some q26)) 7 (some q30))) (w' := [(qh, .inr (2, [.ref q1, .int 0, .int 0])), (q1, eSt G 8 (va_up (va_up (va_up (va_up (va_up (va_up (va_up (va_up (fun _ => none) 0 (some q2)) 1 (some q6)) 2 (some q10)) 3 (some q14)) 4 (some q18)) 5 (some q22)) 6 (some q26)) 7 (some q30))), (q2, .inr (7, [.int 0, .int 0, .int 0, .int 0, .int 0, .int 0, .int 0, .int 0, .ref apictures_3, .ref ashown_4, .ref asighed_5])), (apictures_3, eI G 6 (fun _ => 0)), (ashown_4, eI G 6 (fun _ => 0)), (asighed_5, eI G 8 (fun _ => 0)), (q30, .inr (7, [.int 0, .int 0, .int 0, .int 0, .int 0, .int 0, .int 0, .int 0, .ref apictures_31, .ref ashown_32, .ref asighed_33])), (apictures_31, eI G 6 (fun _ => 0)), (ashown_32, eI G 6 (fun _ => 0)), (asighed_33, eI G 8 (fun _ => 0))]) C hw 1 6 rfl rfl (x_in rfl) rfl rfl dX2_init_33 (fun H locs hw => ?_)
  refine lv_iinc (v := 8) (lv' := [(1, .int 8), (0, .ref qh)]) C.1 C.2.1 dX2_init_34 hl (k := 0) rfl (by decide) (by decide) rfl (fun ls hl => ?_)
  refine lv_goto (tgt := 15) C.1 C.2.1 dX2_init_37 (by decide) ?_
  refine lv_iload_n C.1 C.2.1 dX2_init_15 rfl (lv_at hl 0 rfl) ?_
  refine lv_bipush (v := 8) C.1 C.2.1 dX2_init_16 (by decide) ?_
  refine lv_icmp_ge (tgt := 40) C.1 C.2.1 dX2_init_18 (by decide) (fun _ => ?_) (fun h9 => absurd (by decide) h9)
  have hw := hw.sub (w' := [(qh, .inr (2, [.ref q1, .int 0, .int 0])), (q1, eSt G 8 (va_up (va_up (va_up (va_up (va_up (va_up (va_up (va_up (fun _ => none) 0 (some q2)) 1 (some q6)) 2 (some q10)) 3 (some q14)) 4 (some q18)) 5 (some q22)) 6 (some q26)) 7 (some q30))), (q2, .inr (7, [.int 0, .int 0, .int 0, .int 0, .int 0, .int 0, .int 0, .int 0, .ref apictures_3, .ref ashown_4, .ref asighed_5])), (apictures_3, eI G 6 (fun _ => 0)), (ashown_4, eI G 6 (fun _ => 0)), (asighed_5, eI G 8 (fun _ => 0))]) [0, 1, 2, 3, 4, 5] rfl rfl
  exact x_retv B hw ⟨q1, (va_up (va_up (va_up (va_up (va_up (va_up (va_up (va_up (fun _ => none) 0 (some q2)) 1 (some q6)) 2 (some q10)) 3 (some q14)) 4 (some q18)) 5 (some q22)) 6 (some q26)) 7 (some q30)), q2, apictures_3, ashown_4, asighed_5, rfl, rfl⟩ (Nat.le_of_ble_eq_true rfl) (Nat.le_of_ble_eq_true rfl) dX2_init_40
end
section
theorem dX10_init_0 : decode cX10_init 0 = .ok (.aload_n 0, 1) := by decide +kernel
theorem dX10_init_1 : decode cX10_init 1 = .ok (.invokespecial 1, 3) := by decide +kernel
theorem dX10_init_4 : decode cX10_init 4 = .ok (.aload_n 0, 1) := by decide +kernel
theorem dX10_init_5 : decode cX10_init 5 = .ok (.new 7, 3) := by decide +kernel
theorem dX10_init_8 : decode cX10_init 8 = .ok (.dup, 1) := by decide +kernel
theorem dX10_init_9 : decode cX10_init 9 = .ok (.invokespecial 9, 3) := by decide +kernel
theorem mwX9_init : MwI yX9_init cX9_init 6 0 := ⟨⟨kw36, kw2, by decide +kernel⟩, rfl, kw35⟩
theorem dX10_init_12 : decode cX10_init 12 = .ok (.putfield 10, 3) := by decide +kernel
theorem dX10_init_15 : decode cX10_init 15 = .ok (.aload_n 0, 1) := by decide +kernel
theorem dX10_init_16 : decode cX10_init 16 = .ok (.new 16, 3) := by decide +kernel
theorem dX10_init_19 : decode cX10_init 19 = .ok (.dup, 1) := by decide +kernel
theorem dX10_init_20 : decode cX10_init 20 = .ok (.invokespecial 18, 3) := by decide +kernel
theorem dX10_init_23 : decode cX10_init 23 = .ok (.putfield 19, 3) := by decide +kernel
theorem dX10_init_26 : decode cX10_init 26 = .ok (.aload_n 0, 1) := by decide +kernel
theorem dX10_init_27 : decode cX10_init 27 = .ok (.new 16, 3) := by decide +kernel
theorem dX10_init_30 : decode cX10_init 30 = .ok (.dup, 1) := by decide +kernel
theorem dX10_init_31 : decode cX10_init 31 = .ok (.invokespecial 18, 3) := by decide +kernel
theorem dX10_init_34 : decode cX10_init 34 = .ok (.putfield 23, 3) := by decide +kernel
theorem dX10_init_37 : decode cX10_init 37 = .ok (.aload_n 0, 1) := by decide +kernel
theorem dX10_init_38 : decode cX10_init 38 = .ok (.new 26, 3) := by decide +kernel
theorem dX10_init_41 : decode cX10_init 41 = .ok (.dup, 1) := by decide +kernel
theorem dX10_init_42 : decode cX10_init 42 = .ok (.invokespecial 28, 3) := by decide +kernel
theorem dX10_init_45 : decode cX10_init 45 = .ok (.putfield 29, 3) := by decide +kernel
theorem dX10_init_48 : decode cX10_init 48 = .ok (.aload_n 0, 1) := by decide +kernel
theorem dX10_init_49 : decode cX10_init 49 = .ok (.new 26, 3) := by decide +kernel
theorem dX10_init_52 : decode cX10_init 52 = .ok (.dup, 1) := by decide +kernel
theorem dX10_init_53 : decode cX10_init 53 = .ok (.invokespecial 28, 3) := by decide +kernel
theorem dX10_init_56 : decode cX10_init 56 = .ok (.putfield 33, 3) := by decide +kernel
theorem dX10_init_59 : decode cX10_init 59 = .ok (.aload_n 0, 1) := by decide +kernel
theorem dX10_init_60 : decode cX10_init 60 = .ok (.new 36, 3) := by decide +kernel
theorem dX10_init_63 : decode cX10_init 63 = .ok (.dup, 1) := by decide +kernel
theorem dX10_init_64 : decode cX10_init 64 = .ok (.invokespecial 38, 3) := by decide +kernel
theorem mwX2_init : MwI yX2_init cX2_init 2 0 := ⟨⟨kw298, kw9, by decide +kernel⟩, rfl, kw297⟩
theorem dX10_init_67 : decode cX10_init 67 = .ok (.putfield 39, 3) := by decide +kernel
theorem dX10_init_70 : decode cX10_init 70 = .ok (.aload_n 0, 1) := by decide +kernel
theorem dX10_init_71 : decode cX10_init 71 = .ok (.new 43, 3) := by decide +kernel
theorem dX10_init_74 : decode cX10_init 74 = .ok (.dup, 1) := by decide +kernel
theorem dX10_init_75 : decode cX10_init 75 = .ok (.invokespecial 45, 3) := by decide +kernel
theorem dX10_init_78 : decode cX10_init 78 = .ok (.putfield 46, 3) := by decide +kernel
theorem dX10_init_81 : decode cX10_init 81 = .ok (.aload_n 0, 1) := by decide +kernel
theorem dX10_init_82 : decode cX10_init 82 = .ok (.new 43, 3) := by decide +kernel
theorem dX10_init_85 : decode cX10_init 85 = .ok (.dup, 1) := by decide +kernel
theorem dX10_init_86 : decode cX10_init 86 = .ok (.invokespecial 45, 3) := by decide +kernel
theorem dX10_init_89 : decode cX10_init 89 = .ok (.putfield 50, 3) := by decide +kernel
theorem dX10_init_92 : decode cX10_init 92 = .ok (.aload_n 0, 1) := by decide +kernel
theorem dX10_init_93 : decode cX10_init 93 = .ok (.new 53, 3) := by decide +kernel
theorem dX10_init_96 : decode cX10_init 96 = .ok (.dup, 1) := by decide +kernel
theorem dX10_init_97 : decode cX10_init 97 = .ok (.invokespecial 55, 3) := by decide +kernel
theorem mwX1_init : MwI yX1_init cX1_init 1 0 := ⟨⟨kw348, kw11, by decide +kernel⟩, rfl, kw347⟩
theorem dX10_init_100 : decode cX10_init 100 = .ok (.putfield 56, 3) := by decide +kernel
theorem dX10_init_103 : decode cX10_init 103 = .ok (.aload_n 0, 1) := by decide +kernel
theorem dX10_init_104 : decode cX10_init 104 = .ok (.new 60, 3) := by decide +kernel
theorem dX10_init_107 : decode cX10_init 107 = .ok (.dup, 1) := by decide +kernel
theorem dX10_init_108 : decode cX10_init 108 = .ok (.invokespecial 62, 3) := by decide +kernel
theorem mwX6_init : MwI yX6_init cX6_init 1 0 := ⟨⟨kw375, kw12, by decide +kernel⟩, rfl, kw374⟩
theorem dX10_init_111 : decode cX10_init 111 = .ok (.putfield 63, 3) := by decide +kernel
theorem dX10_init_114 : decode cX10_init 114 = .ok (.aload_n 0, 1) := by decide +kernel
theorem dX10_init_115 : decode cX10_init 115 = .ok (.new 67, 3) := by decide +kernel
theorem dX10_init_118 : decode cX10_init 118 = .ok (.dup, 1) := by decide +kernel
theorem dX10_init_119 : decode cX10_init 119 = .ok (.invokespecial 69, 3) := by decide +kernel
theorem mwX0_init : MwI yX0_init cX0_init 1 0 := ⟨⟨kw405, kw13, by decide +kernel⟩, rfl, kw404⟩
theorem dX10_init_122 : decode cX10_init 122 = .ok (.putfield 70, 3) := by decide +kernel
theorem dX10_init_125 : decode cX10_init 125 = .ok (.aload_n 0, 1) := by decide +kernel
theorem dX10_init_126 : decode cX10_init 126 = .ok (.iconst 2, 1) := by decide +kernel
theorem dX10_init_127 : decode cX10_init 127 = .ok (.anewarray 74, 3) := by decide +kernel
theorem dX10_init_130 : decode cX10_init 130 = .ok (.putfield 76, 3) := by decide +kernel
theorem dX10_init_133 : decode cX10_init 133 = .ok (.aload_n 0, 1) := by decide +kernel
theorem dX10_init_134 : decode cX10_init 134 = .ok (.iconst 4, 1) := by decide +kernel
theorem dX10_init_135 : decode cX10_init 135 = .ok (.newarray .int, 2) := by decide +kernel
theorem dX10_init_137 : decode cX10_init 137 = .ok (.putfield 80, 3) := by decide +kernel
theorem dX10_init_140 : decode cX10_init 140 = .ok (.aload_n 0, 1) := by decide +kernel
theorem dX10_init_141 : decode cX10_init 141 = .ok (.iconst (-1), 1) := by decide +kernel
theorem dX10_init_142 : decode cX10_init 142 = .ok (.putfield 84, 3) := by decide +kernel
theorem dX10_init_145 : decode cX10_init 145 = .ok (.aload_n 0, 1) := by decide +kernel
theorem dX10_init_146 : decode cX10_init 146 = .ok (.iconst (-1), 1) := by decide +kernel
theorem dX10_init_147 : decode cX10_init 147 = .ok (.putfield 88, 3) := by decide +kernel
theorem dX10_init_150 : decode cX10_init 150 = .ok (.iconst 0, 1) := by decide +kernel
theorem dX10_init_151 : decode cX10_init 151 = .ok (.istore_n 1, 1) := by decide +kernel
theorem dX10_init_152 : decode cX10_init 152 = .ok (.iload_n 1, 1) := by decide +kernel
theorem dX10_init_153 : decode cX10_init 153 = .ok (.iconst 2, 1) := by decide +kernel
theorem dX10_init_154 : decode cX10_init 154 = .ok (.if_icmp .ge 22, 3) := by decide +kernel
theorem dX10_init_157 : decode cX10_init 157 = .ok (.aload_n 0, 1) := by decide +kernel
theorem dX10_init_158 : decode cX10_init 158 = .ok (.getfield 76, 3) := by decide +kernel
theorem dX10_init_161 : decode cX10_init 161 = .ok (.iload_n 1, 1) := by decide +kernel
theorem dX10_init_162 : decode cX10_init 162 = .ok (.new 74, 3) := by decide +kernel
theorem dX10_init_165 : decode cX10_init 165 = .ok (.dup, 1) := by decide +kernel
theorem dX10_init_166 : decode cX10_init 166 = .ok (.invokespecial 91, 3) := by decide +kernel
theorem mwX3_init : MwI yX3_init cX3_init 1 0 := ⟨⟨kw422, kw14, by decide +kernel⟩, rfl, kw421⟩
theorem dX10_init_169 : decode cX10_init 169 = .ok (.aastore, 1) := by decide +kernel
theorem dX10_init_170 : decode cX10_init 170 = .ok (.iinc 1 1, 3) := by decide +kernel
theorem dX10_init_173 : decode cX10_init 173 = .ok (.goto (-21), 3) := by decide +kernel
theorem dX10_init_176 : decode cX10_init 176 = .ok (.return_, 1) := by decide +kernel
-- LanternState()
set_option maxHeartbeats 4000000 in
set_option maxRecDepth 100000 in
theorem c_X10_init {l : Launch} {G : Gc} (qx : Nat)  : Cv l yX10_init cX10_init 2 5 127 2599 G [.ref qx] [(qx, .inr (9, [.null, .null, .null, .null, .null, .null, .null, .null, .null, .null, .null, .null, .null, .int 0, .int 0, .int 0, .int 0]))] (fun (u9 : va_W) => ∃ (qt : Nat) (kc : Nat) (bys : Nat) (qs : Nat) (sslideNames : Nat) (spictures : Nat) (sheats : Nat) (safter : Nat) (shearerNames : Nat) (sneeds : Nat) (slikes : Nat) (shates : Nat) (snear : Nat) (qd : Nat) (dslideNames : Nat) (dpictures : Nat) (dheats : Nat) (dafter : Nat) (dhearerNames : Nat) (dneeds : Nat) (dlikes : Nat) (dhates : Nat) (dnear : Nat) (qa : Nat) (apictures : Nat) (ashown : Nat) (asighed : Nat) (qb : Nat) (bpictures : Nat) (bshown : Nat) (bsighed : Nat) (qh : Nat) (hk : Nat) (hs : Nat) (hpictures : Nat) (hshown : Nat) (hsighed : Nat) (qr : Nat) (rkeys : Nat) (rsigns : Nat) (rnumbers : Nat) (rstack : Nat) (qe : Nat) (ekeys : Nat) (esigns : Nat) (enumbers : Nat) (estack : Nat) (qp : Nat) (pkeys : Nat) (pwhos : Nat) (pfirsts : Nat) (pseconds : Nat) (qf : Nat) (fbestPath : Nat) (fpath : Nat) (qn : Nat) (nletters : Nat) (qi : Nat) (qo : Nat) (i0 : Nat) (i0s : Nat) (i0sslideNames : Nat) (i0spictures : Nat) (i0sheats : Nat) (i0safter : Nat) (i0shearerNames : Nat) (i0sneeds : Nat) (i0slikes : Nat) (i0shates : Nat) (i0snear : Nat) (i0a : Nat) (i0apictures : Nat) (i0ashown : Nat) (i0asighed : Nat) (i0r : Nat) (i0rkeys : Nat) (i0rsigns : Nat) (i0rnumbers : Nat) (i0rstack : Nat) (i1 : Nat) (i1s : Nat) (i1sslideNames : Nat) (i1spictures : Nat) (i1sheats : Nat) (i1safter : Nat) (i1shearerNames : Nat) (i1sneeds : Nat) (i1slikes : Nat) (i1shates : Nat) (i1snear : Nat) (i1a : Nat) (i1apictures : Nat) (i1ashown : Nat) (i1asighed : Nat) (i1r : Nat) (i1rkeys : Nat) (i1rsigns : Nat) (i1rnumbers : Nat) (i1rstack : Nat) (fkc : Nat → Int64) (hf : Nat → Option Nat), u9 = [(qx, .inr (9, [.ref qt, .ref qs, .ref qd, .ref qa, .ref qb, .ref qh, .ref qr, .ref qe, .ref qp, .ref qf, .ref qn, .ref qi, .ref qo, .int 0, .int 0, .int (-1), .int (-1)])), (qt, .inr (8, [.ref kc, .ref bys, .int 0, .int 0, .int 0, .int 0, .int 0, .int 0, .long 0, .int 0, .int 0, .int 0])), (kc, eJ G 27 fkc), (bys, eB G 940 (fun _ => 0)), (qs, .inr (4, [.int 0, .int 0, .int 0, .int 0, .int 1, .int 0, .int 40, .int 0, .int 0, .ref sslideNames, .ref spictures, .ref sheats, .ref safter, .ref shearerNames, .ref sneeds, .ref slikes, .ref shates, .ref snear])), (sslideNames, eJ G 6 (fun _ => 0)), (spictures, eI G 6 (fun _ => 0)), (sheats, eI G 6 (fun _ => 0)), (safter, eI G 6 (fun _ => 0)), (shearerNames, eJ G 8 (fun _ => 0)), (sneeds, eI G 8 (fun _ => 0)), (slikes, eI G 8 (fun _ => 0)), (shates, eI G 8 (fun _ => 0)), (snear, eI G 8 (fun _ => 0)), (qd, .inr (4, [.int 0, .int 0, .int 0, .int 0, .int 1, .int 0, .int 40, .int 0, .int 0, .ref dslideNames, .ref dpictures, .ref dheats, .ref dafter, .ref dhearerNames, .ref dneeds, .ref dlikes, .ref dhates, .ref dnear])), (dslideNames, eJ G 6 (fun _ => 0)), (dpictures, eI G 6 (fun _ => 0)), (dheats, eI G 6 (fun _ => 0)), (dafter, eI G 6 (fun _ => 0)), (dhearerNames, eJ G 8 (fun _ => 0)), (dneeds, eI G 8 (fun _ => 0)), (dlikes, eI G 8 (fun _ => 0)), (dhates, eI G 8 (fun _ => 0)), (dnear, eI G 8 (fun _ => 0)), (qa, .inr (7, [.int 0, .int 0, .int 0, .int 0, .int 0, .int 0, .int 0, .int 0, .ref apictures, .ref ashown, .ref asighed])), (apictures, eI G 6 (fun _ => 0)), (ashown, eI G 6 (fun _ => 0)), (asighed, eI G 8 (fun _ => 0)), (qb, .inr (7, [.int 0, .int 0, .int 0, .int 0, .int 0, .int 0, .int 0, .int 0, .ref bpictures, .ref bshown, .ref bsighed])), (bpictures, eI G 6 (fun _ => 0)), (bshown, eI G 6 (fun _ => 0)), (bsighed, eI G 8 (fun _ => 0)), (qh, .inr (2, [.ref hk, .int 0, .int 0])), (hk, eSt G 8 hf), (hs, .inr (7, [.int 0, .int 0, .int 0, .int 0, .int 0, .int 0, .int 0, .int 0, .ref hpictures, .ref hshown, .ref hsighed])), (hpictures, eI G 6 (fun _ => 0)), (hshown, eI G 6 (fun _ => 0)), (hsighed, eI G 8 (fun _ => 0)), (qr, .inr (6, [.int 0, .int 0, .int 0, .ref rkeys, .ref rsigns, .ref rnumbers, .ref rstack])), (rkeys, eI G 40 (fun _ => 0)), (rsigns, eI G 40 (fun _ => 0)), (rnumbers, eI G 40 (fun _ => 0)), (rstack, eI G 40 (fun _ => 0)), (qe, .inr (6, [.int 0, .int 0, .int 0, .ref ekeys, .ref esigns, .ref enumbers, .ref estack])), (ekeys, eI G 40 (fun _ => 0)), (esigns, eI G 40 (fun _ => 0)), (enumbers, eI G 40 (fun _ => 0)), (estack, eI G 40 (fun _ => 0)), (qp, .inr (1, [.ref pkeys, .ref pwhos, .ref pfirsts, .ref pseconds, .int 0, .int 0])), (pkeys, eI G 40 (fun _ => 0)), (pwhos, eI G 40 (fun _ => 0)), (pfirsts, eI G 40 (fun _ => 0)), (pseconds, eI G 40 (fun _ => 0)), (qf, .inr (5, [.ref fbestPath, .int 0, .int 0, .ref fpath, .int 0, .int 0, .int 0])), (fbestPath, eI G 6 (fun _ => 0)), (fpath, eI G 6 (fun _ => 0)), (qn, .inr (0, [.ref nletters, .int 0])), (nletters, eC G 40 (fun _ => 0)), (qi, eIm G 2 (va_up (va_up (fun _ => none) 0 (some i0)) 1 (some i1))), (qo, eI G 4 (fun _ => 0)), (i0, .inr (3, [.int 0, .ref i0s, .ref i0a, .ref i0r])), (i0s, .inr (4, [.int 0, .int 0, .int 0, .int 0, .int 1, .int 0, .int 40, .int 0, .int 0, .ref i0sslideNames, .ref i0spictures, .ref i0sheats, .ref i0safter, .ref i0shearerNames, .ref i0sneeds, .ref i0slikes, .ref i0shates, .ref i0snear])), (i0sslideNames, eJ G 6 (fun _ => 0)), (i0spictures, eI G 6 (fun _ => 0)), (i0sheats, eI G 6 (fun _ => 0)), (i0safter, eI G 6 (fun _ => 0)), (i0shearerNames, eJ G 8 (fun _ => 0)), (i0sneeds, eI G 8 (fun _ => 0)), (i0slikes, eI G 8 (fun _ => 0)), (i0shates, eI G 8 (fun _ => 0)), (i0snear, eI G 8 (fun _ => 0)), (i0a, .inr (7, [.int 0, .int 0, .int 0, .int 0, .int 0, .int 0, .int 0, .int 0, .ref i0apictures, .ref i0ashown, .ref i0asighed])), (i0apictures, eI G 6 (fun _ => 0)), (i0ashown, eI G 6 (fun _ => 0)), (i0asighed, eI G 8 (fun _ => 0)), (i0r, .inr (6, [.int 0, .int 0, .int 0, .ref i0rkeys, .ref i0rsigns, .ref i0rnumbers, .ref i0rstack])), (i0rkeys, eI G 40 (fun _ => 0)), (i0rsigns, eI G 40 (fun _ => 0)), (i0rnumbers, eI G 40 (fun _ => 0)), (i0rstack, eI G 40 (fun _ => 0)), (i1, .inr (3, [.int 0, .ref i1s, .ref i1a, .ref i1r])), (i1s, .inr (4, [.int 0, .int 0, .int 0, .int 0, .int 1, .int 0, .int 40, .int 0, .int 0, .ref i1sslideNames, .ref i1spictures, .ref i1sheats, .ref i1safter, .ref i1shearerNames, .ref i1sneeds, .ref i1slikes, .ref i1shates, .ref i1snear])), (i1sslideNames, eJ G 6 (fun _ => 0)), (i1spictures, eI G 6 (fun _ => 0)), (i1sheats, eI G 6 (fun _ => 0)), (i1safter, eI G 6 (fun _ => 0)), (i1shearerNames, eJ G 8 (fun _ => 0)), (i1sneeds, eI G 8 (fun _ => 0)), (i1slikes, eI G 8 (fun _ => 0)), (i1shates, eI G 8 (fun _ => 0)), (i1snear, eI G 8 (fun _ => 0)), (i1a, .inr (7, [.int 0, .int 0, .int 0, .int 0, .int 0, .int 0, .int 0, .int 0, .ref i1apictures, .ref i1ashown, .ref i1asighed])), (i1apictures, eI G 6 (fun _ => 0)), (i1ashown, eI G 6 (fun _ => 0)), (i1asighed, eI G 8 (fun _ => 0)), (i1r, .inr (6, [.int 0, .int 0, .int 0, .ref i1rkeys, .ref i1rsigns, .ref i1rnumbers, .ref i1rstack])), (i1rkeys, eI G 40 (fun _ => 0)), (i1rsigns, eI G 40 (fun _ => 0)), (i1rnumbers, eI G 40 (fun _ => 0)), (i1rstack, eI G 40 (fun _ => 0))] ∧ hf 0 = some hs) := by
  refine Cv.of (by decide) (Nat.le_of_ble_eq_true rfl) ?_
  intro p e s m below meth c ls A B hw hl
  have C : CallFix p m c cX10_init 2 s _ gw "LanternState" := B.1
  have hl : lv_has ls 2 [(0, .ref qx)] := hl
  refine lv_aload_n C.1 C.2.1 dX10_init_0 rfl (lv_at hl 0 rfl) ?_
  refine x_objInit C kw29 hl.1 (Nat.le_of_ble_eq_true rfl) (Nat.le_of_ble_eq_true rfl) dX10_init_1 ?_
  refine lv_aload_n C.1 C.2.1 dX10_init_4 rfl (lv_at hl 0 rfl) ?_
  refine x_new (fs := [.null, .null, .int 0, .int 0, .int 0, .int 0, .int 0, .int 0, .long 0, .int 0, .int 0, .int 0]) C hw iwX9 tyX9_ok 8 rfl kw32 kw33 kw2 (by decide +kernel) (Nat.le_of_ble_eq_true rfl) (Nat.le_of_ble_eq_true rfl) dX10_init_5 (fun q1 H hw => ?_)
  have hw : Wd G s A [(qx, .inr (9, [.null, .null, .null, .null, .null, .null, .null, .null, .null, .null, .null, .null, .null, .int 0, .int 0, .int 0, .int 0])), (q1, .inr (8, [.null, .null, .int 0, .int 0, .int 0, .int 0, .int 0, .int 0, .long 0, .int 0, .int 0, .int 0]))] H _ := hw
  refine W.widen (k := 1) (n := 12) (Nat.le_of_ble_eq_true rfl) (Nat.le_of_ble_eq_true rfl) ?_
  refine lv_dup C.1 C.2.1 dX10_init_8 rfl ?_
  refine x_callvI (As := []) (rest := [.ref q1, .ref qx]) (wr := [(qx, .inr (9, [.null, .null, .null, .null, .null, .null, .null, .null, .null, .null, .null, .null, .null, .int 0, .int 0, .int 0, .int 0]))]) C hw (c_X9_init q1) mwX9_init kw34 [1] [0] rfl rfl rfl rfl (by decide) rfl hl.1 rfl (Nat.le_of_ble_eq_true rfl) ⟨(Nat.le_of_ble_eq_true rfl), (Nat.le_of_ble_eq_true rfl)⟩ ⟨(Nat.le_of_ble_eq_true rfl), (Nat.le_of_ble_eq_true rfl)⟩ dX10_init_9 (fun  u9 H locs hp9 hw => ?_)
  obtain ⟨kc_2, bys_3, fkc_4, rfl⟩ := hp9
  have hw : Wd G s A [(qx, .inr (9, [.null, .null, .null, .null, .null, .null, .null, .null, .null, .null, .null, .null, .null, .int 0, .int 0, .int 0, .int 0])), (q1, .inr (8, [.ref kc_2, .ref bys_3, .int 0, .int 0, .int 0, .int 0, .int 0, .int 0, .long 0, .int 0, .int 0, .int 0])), (kc_2, eJ G 27 fkc_4), (bys_3, eB G 940 (fun _ => 0))] H _ := hw
  refine W.widen (k := 3) (n := 979) (Nat.le_of_ble_eq_true rfl) (Nat.le_of_ble_eq_true rfl) ?_
  refine x_putF (w' := [(qx, .inr (9, [.ref q1, .null, .null, .null, .null, .null, .null, .null, .null, .null, .null, .null, .null, .int 0, .int 0, .int 0, .int 0])), (q1, .inr (8, [.ref kc_2, .ref bys_3, .int 0, .int 0, .int 0, .int 0, .int 0, .int 0, .long 0, .int 0, .int 0, .int 0])), (kc_2, eJ G 27 fkc_4), (bys_3, eB G 940 (fun _ => 0))]) C hw iwX10 tyX10_ok nmX10 B.2.2.2 9 rfl 0 rfl 0 (by decide) kw446 rfl rfl rfl rfl (Nat.le_of_ble_eq_true rfl) rfl dX10_init_12 (fun H locs hw => ?_)
  refine lv_aload_n C.1 C.2.1 dX10_init_15 rfl (lv_at hl 0 rfl) ?_
  refine x_new (fs := [.int 0, .int 0, .int 0, .int 0, .int 0, .int 0, .int 0, .int 0, .int 0, .null, .null, .null, .null, .null, .null, .null, .null, .null]) C hw iwX5 tyX5_ok 4 rfl kw141 kw142 kw7 (by decide +kernel) (Nat.le_of_ble_eq_true rfl) (Nat.le_of_ble_eq_true rfl) dX10_init_16 (fun q5 H hw => ?_)
  have hw : Wd G s A [(qx, .inr (9, [.ref q1, .null, .null, .null, .null, .null, .null, .null, .null, .null, .null, .null, .null, .int 0, .int 0, .int 0, .int 0])), (q1, .inr (8, [.ref kc_2, .ref bys_3, .int 0, .int 0, .int 0, .int 0, .int 0, .int 0, .long 0, .int 0, .int 0, .int 0])), (kc_2, eJ G 27 fkc_4), (bys_3, eB G 940 (fun _ => 0)), (q5, .inr (4, [.int 0, .int 0, .int 0, .int 0, .int 0, .int 0, .int 0, .int 0, .int 0, .null, .null, .null, .null, .null, .null, .null, .null, .null]))] H _ := hw
  refine W.widen (k := 4) (n := 997) (Nat.le_of_ble_eq_true rfl) (Nat.le_of_ble_eq_true rfl) ?_
  refine lv_dup C.1 C.2.1 dX10_init_19 rfl ?_
  refine x_callvIN (As := []) (rest := [.ref q5, .ref qx]) (wr := [(qx, .inr (9, [.ref q1, .null, .null, .null, .null, .null, .null, .null, .null, .null, .null, .null, .null, .int 0, .int 0, .int 0, .int 0])), (q1, .inr (8, [.ref kc_2, .ref bys_3, .int 0, .int 0, .int 0, .int 0, .int 0, .int 0, .long 0, .int 0, .int 0, .int 0])), (kc_2, eJ G 27 fkc_4), (bys_3, eB G 940 (fun _ => 0))]) C hw (c_X5_init q5) mwX5_init (nst0 hw.1) [4] [0, 1, 2, 3] rfl rfl rfl rfl (by decide) rfl hl.1 rfl (Nat.le_of_ble_eq_true rfl) ⟨(Nat.le_of_ble_eq_true rfl), (Nat.le_of_ble_eq_true rfl)⟩ ⟨(Nat.le_of_ble_eq_true rfl), (Nat.le_of_ble_eq_true rfl)⟩ dX10_init_20 (fun  u9 H locs hp9 hw => ?_)
  obtain ⟨sslideNames_6, spictures_7, sheats_8, safter_9, shearerNames_10, sneeds_11, slikes_12, shates_13, snear_14, rfl⟩ := hp9
  have hw : Wd G s A [(qx, .inr (9, [.ref q1, .null, .null, .null, .null, .null, .null, .null, .null, .null, .null, .null, .null, .int 0, .int 0, .int 0, .int 0])), (q1, .inr (8, [.ref kc_2, .ref bys_3, .int 0, .int 0, .int 0, .int 0, .int 0, .int 0, .long 0, .int 0, .int 0, .int 0])), (kc_2, eJ G 27 fkc_4), (bys_3, eB G 940 (fun _ => 0)), (q5, .inr (4, [.int 0, .int 0, .int 0, .int 0, .int 1, .int 0, .int 40, .int 0, .int 0, .ref sslideNames_6, .ref spictures_7, .ref sheats_8, .ref safter_9, .ref shearerNames_10, .ref sneeds_11, .ref slikes_12, .ref shates_13, .ref snear_14])), (sslideNames_6, eJ G 6 (fun _ => 0)), (spictures_7, eI G 6 (fun _ => 0)), (sheats_8, eI G 6 (fun _ => 0)), (safter_9, eI G 6 (fun _ => 0)), (shearerNames_10, eJ G 8 (fun _ => 0)), (sneeds_11, eI G 8 (fun _ => 0)), (slikes_12, eI G 8 (fun _ => 0)), (shates_13, eI G 8 (fun _ => 0)), (snear_14, eI G 8 (fun _ => 0))] H _ := hw
  refine W.widen (k := 13) (n := 1061) (Nat.le_of_ble_eq_true rfl) (Nat.le_of_ble_eq_true rfl) ?_
  refine x_putF (w' := [(qx, .inr (9, [.ref q1, .ref q5, .null, .null, .null, .null, .null, .null, .null, .null, .null, .null, .null, .int 0, .int 0, .int 0, .int 0])), (q1, .inr (8, [.ref kc_2, .ref bys_3, .int 0, .int 0, .int 0, .int 0, .int 0, .int 0, .long 0, .int 0, .int 0, .int 0])), (kc_2, eJ G 27 fkc_4), (bys_3, eB G 940 (fun _ => 0)), (q5, .inr (4, [.int 0, .int 0, .int 0, .int 0, .int 1, .int 0, .int 40, .int 0, .int 0, .ref sslideNames_6, .ref spictures_7, .ref sheats_8, .ref safter_9, .ref shearerNames_10, .ref sneeds_11, .ref slikes_12, .ref shates_13, .ref snear_14])), (sslideNames_6, eJ G 6 (fun _ => 0)), (spictures_7, eI G 6 (fun _ => 0)), (sheats_8, eI G 6 (fun _ => 0)), (safter_9, eI G 6 (fun _ => 0)), (shearerNames_10, eJ G 8 (fun _ => 0)), (sneeds_11, eI G 8 (fun _ => 0)), (slikes_12, eI G 8 (fun _ => 0)), (shates_13, eI G 8 (fun _ => 0)), (snear_14, eI G 8 (fun _ => 0))]) C hw iwX10 tyX10_ok nmX10 B.2.2.2 9 rfl 0 rfl 1 (by decide) kw447 rfl rfl rfl rfl (Nat.le_of_ble_eq_true rfl) rfl dX10_init_23 (fun H locs hw => ?_)
  refine lv_aload_n C.1 C.2.1 dX10_init_26 rfl (lv_at hl 0 rfl) ?_
  refine x_new (fs := [.int 0, .int 0, .int 0, .int 0, .int 0, .int 0, .int 0, .int 0, .int 0, .null, .null, .null, .null, .null, .null, .null, .null, .null]) C hw iwX5 tyX5_ok 4 rfl kw141 kw142 kw7 (by decide +kernel) (Nat.le_of_ble_eq_true rfl) (Nat.le_of_ble_eq_true rfl) dX10_init_27 (fun q15 H hw => ?_)
  have hw : Wd G s A [(qx, .inr (9, [.ref q1, .ref q5, .null, .null, .null, .null, .null, .null, .null, .null, .null, .null, .null, .int 0, .int 0, .int 0, .int 0])), (q1, .inr (8, [.ref kc_2, .ref bys_3, .int 0, .int 0, .int 0, .int 0, .int 0, .int 0, .long 0, .int 0, .int 0, .int 0])), (kc_2, eJ G 27 fkc_4), (bys_3, eB G 940 (fun _ => 0)), (q5, .inr (4, [.int 0, .int 0, .int 0, .int 0, .int 1, .int 0, .int 40, .int 0, .int 0, .ref sslideNames_6, .ref spictures_7, .ref sheats_8, .ref safter_9, .ref shearerNames_10, .ref sneeds_11, .ref slikes_12, .ref shates_13, .ref snear_14])), (sslideNames_6, eJ G 6 (fun _ => 0)), (spictures_7, eI G 6 (fun _ => 0)), (sheats_8, eI G 6 (fun _ => 0)), (safter_9, eI G 6 (fun _ => 0)), (shearerNames_10, eJ G 8 (fun _ => 0)), (sneeds_11, eI G 8 (fun _ => 0)), (slikes_12, eI G 8 (fun _ => 0)), (shates_13, eI G 8 (fun _ => 0)), (snear_14, eI G 8 (fun _ => 0)), (q15, .inr (4, [.int 0, .int 0, .int 0, .int 0, .int 0, .int 0, .int 0, .int 0, .int 0, .null, .null, .null, .null, .null, .null, .null, .null, .null]))] H _ := hw
  refine W.widen (k := 14) (n := 1079) (Nat.le_of_ble_eq_true rfl) (Nat.le_of_ble_eq_true rfl) ?_
  refine lv_dup C.1 C.2.1 dX10_init_30 rfl ?_
  refine x_callvIN (As := []) (rest := [.ref q15, .ref qx]) (wr := [(qx, .inr (9, [.ref q1, .ref q5, .null, .null, .null, .null, .null, .null, .null, .null, .null, .null, .null, .int 0, .int 0, .int 0, .int 0])), (q1, .inr (8, [.ref kc_2, .ref bys_3, .int 0, .int 0, .int 0, .int 0, .int 0, .int 0, .long 0, .int 0, .int 0, .int 0])), (kc_2, eJ G 27 fkc_4), (bys_3, eB G 940 (fun _ => 0)), (q5, .inr (4, [.int 0, .int 0, .int 0, .int 0, .int 1, .int 0, .int 40, .int 0, .int 0, .ref sslideNames_6, .ref spictures_7, .ref sheats_8, .ref safter_9, .ref shearerNames_10, .ref sneeds_11, .ref slikes_12, .ref shates_13, .ref snear_14])), (sslideNames_6, eJ G 6 (fun _ => 0)), (spictures_7, eI G 6 (fun _ => 0)), (sheats_8, eI G 6 (fun _ => 0)), (safter_9, eI G 6 (fun _ => 0)), (shearerNames_10, eJ G 8 (fun _ => 0)), (sneeds_11, eI G 8 (fun _ => 0)), (slikes_12, eI G 8 (fun _ => 0)), (shates_13, eI G 8 (fun _ => 0)), (snear_14, eI G 8 (fun _ => 0))]) C hw (c_X5_init q15) mwX5_init (nst0 hw.1) [14] [0, 1, 2, 3, 4, 5, 6, 7, 8, 9, 10, 11, 12, 13] rfl rfl rfl rfl (by decide) rfl hl.1 rfl (Nat.le_of_ble_eq_true rfl) ⟨(Nat.le_of_ble_eq_true rfl), (Nat.le_of_ble_eq_true rfl)⟩ ⟨(Nat.le_of_ble_eq_true rfl), (Nat.le_of_ble_eq_true rfl)⟩ dX10_init_31 (fun  u9 H locs hp9 hw => ?_)
  obtain ⟨sslideNames_16, spictures_17, sheats_18, safter_19, shearerNames_20, sneeds_21, slikes_22, shates_23, snear_24, rfl⟩ := hp9
  have hw : Wd G s A [(qx, .inr (9, [.ref q1, .ref q5, .null, .null, .null, .null, .null, .null, .null, .null, .null, .null, .null, .int 0, .int 0, .int 0, .int 0])), (q1, .inr (8, [.ref kc_2, .ref bys_3, .int 0, .int 0, .int 0, .int 0, .int 0, .int 0, .long 0, .int 0, .int 0, .int 0])), (kc_2, eJ G 27 fkc_4), (bys_3, eB G 940 (fun _ => 0)), (q5, .inr (4, [.int 0, .int 0, .int 0, .int 0, .int 1, .int 0, .int 40, .int 0, .int 0, .ref sslideNames_6, .ref spictures_7, .ref sheats_8, .ref safter_9, .ref shearerNames_10, .ref sneeds_11, .ref slikes_12, .ref shates_13, .ref snear_14])), (sslideNames_6, eJ G 6 (fun _ => 0)), (spictures_7, eI G 6 (fun _ => 0)), (sheats_8, eI G 6 (fun _ => 0)), (safter_9, eI G 6 (fun _ => 0)), (shearerNames_10, eJ G 8 (fun _ => 0)), (sneeds_11, eI G 8 (fun _ => 0)), (slikes_12, eI G 8 (fun _ => 0)), (shates_13, eI G 8 (fun _ => 0)), (snear_14, eI G 8 (fun _ => 0)), (q15, .inr (4, [.int 0, .int 0, .int 0, .int 0, .int 1, .int 0, .int 40, .int 0, .int 0, .ref sslideNames_16, .ref spictures_17, .ref sheats_18, .ref safter_19, .ref shearerNames_20, .ref sneeds_21, .ref slikes_22, .ref shates_23, .ref snear_24])), (sslideNames_16, eJ G 6 (fun _ => 0)), (spictures_17, eI G 6 (fun _ => 0)), (sheats_18, eI G 6 (fun _ => 0)), (safter_19, eI G 6 (fun _ => 0)), (shearerNames_20, eJ G 8 (fun _ => 0)), (sneeds_21, eI G 8 (fun _ => 0)), (slikes_22, eI G 8 (fun _ => 0)), (shates_23, eI G 8 (fun _ => 0)), (snear_24, eI G 8 (fun _ => 0))] H _ := hw
  refine W.widen (k := 23) (n := 1143) (Nat.le_of_ble_eq_true rfl) (Nat.le_of_ble_eq_true rfl) ?_
  refine x_putF (w' := [(qx, .inr (9, [.ref q1, .ref q5, .ref q15, .null, .null, .null, .null, .null, .null, .null, .null, .null, .null, .int 0, .int 0, .int 0, .int 0])), (q1, .inr (8, [.ref kc_2, .ref bys_3, .int 0, .int 0, .int 0, .int 0, .int 0, .int 0, .long 0, .int 0, .int 0, .int 0])), (kc_2, eJ G 27 fkc_4), (bys_3, eB G 940 (fun _ => 0)), (q5, .inr (4, [.int 0, .int 0, .int 0, .int 0, .int 1, .int 0, .int 40, .int 0, .int 0, .ref sslideNames_6, .ref spictures_7, .ref sheats_8, .ref safter_9, .ref shearerNames_10, .ref sneeds_11, .ref slikes_12, .ref shates_13, .ref snear_14])), (sslideNames_6, eJ G 6 (fun _ => 0)), (spictures_7, eI G 6 (fun _ => 0)), (sheats_8, eI G 6 (fun _ => 0)), (safter_9, eI G 6 (fun _ => 0)), (shearerNames_10, eJ G 8 (fun _ => 0)), (sneeds_11, eI G 8 (fun _ => 0)), (slikes_12, eI G 8 (fun _ => 0)), (shates_13, eI G 8 (fun _ => 0)), (snear_14, eI G 8 (fun _ => 0)), (q15, .inr (4, [.int 0, .int 0, .int 0, .int 0, .int 1, .int 0, .int 40, .int 0, .int 0, .ref sslideNames_16, .ref spictures_17, .ref sheats_18, .ref safter_19, .ref shearerNames_20, .ref sneeds_21, .ref slikes_22, .ref shates_23, .ref snear_24])), (sslideNames_16, eJ G 6 (fun _ => 0)), (spictures_17, eI G 6 (fun _ => 0)), (sheats_18, eI G 6 (fun _ => 0)), (safter_19, eI G 6 (fun _ => 0)), (shearerNames_20, eJ G 8 (fun _ => 0)), (sneeds_21, eI G 8 (fun _ => 0)), (slikes_22, eI G 8 (fun _ => 0)), (shates_23, eI G 8 (fun _ => 0)), (snear_24, eI G 8 (fun _ => 0))]) C hw iwX10 tyX10_ok nmX10 B.2.2.2 9 rfl 0 rfl 2 (by decide) kw448 rfl rfl rfl rfl (Nat.le_of_ble_eq_true rfl) rfl dX10_init_34 (fun H locs hw => ?_)
  refine lv_aload_n C.1 C.2.1 dX10_init_37 rfl (lv_at hl 0 rfl) ?_
  refine x_new (fs := [.int 0, .int 0, .int 0, .int 0, .int 0, .int 0, .int 0, .int 0, .null, .null, .null]) C hw iwX8 tyX8_ok 7 rfl kw231 kw232 kw8 (by decide +kernel) (Nat.le_of_ble_eq_true rfl) (Nat.le_of_ble_eq_true rfl) dX10_init_38 (fun q25 H hw => ?_)
  have hw : Wd G s A [(qx, .inr (9, [.ref q1, .ref q5, .ref q15, .null, .null, .null, .null, .null, .null, .null, .null, .null, .null, .int 0, .int 0, .int 0, .int 0])), (q1, .inr (8, [.ref kc_2, .ref bys_3, .int 0, .int 0, .int 0, .int 0, .int 0, .int 0, .long 0, .int 0, .int 0, .int 0])), (kc_2, eJ G 27 fkc_4), (bys_3, eB G 940 (fun _ => 0)), (q5, .inr (4, [.int 0, .int 0, .int 0, .int 0, .int 1, .int 0, .int 40, .int 0, .int 0, .ref sslideNames_6, .ref spictures_7, .ref sheats_8, .ref safter_9, .ref shearerNames_10, .ref sneeds_11, .ref slikes_12, .ref shates_13, .ref snear_14])), (sslideNames_6, eJ G 6 (fun _ => 0)), (spictures_7, eI G 6 (fun _ => 0)), (sheats_8, eI G 6 (fun _ => 0)), (safter_9, eI G 6 (fun _ => 0)), (shearerNames_10, eJ G 8 (fun _ => 0)), (sneeds_11, eI G 8 (fun _ => 0)), (slikes_12, eI G 8 (fun _ => 0)), (shates_13, eI G 8 (fun _ => 0)), (snear_14, eI G 8 (fun _ => 0)), (q15, .inr (4, [.int 0, .int 0, .int 0, .int 0, .int 1, .int 0, .int 40, .int 0, .int 0, .ref sslideNames_16, .ref spictures_17, .ref sheats_18, .ref safter_19, .ref shearerNames_20, .ref sneeds_21, .ref slikes_22, .ref shates_23, .ref snear_24])), (sslideNames_16, eJ G 6 (fun _ => 0)), (spictures_17, eI G 6 (fun _ => 0)), (sheats_18, eI G 6 (fun _ => 0)), (safter_19, eI G 6 (fun _ => 0)), (shearerNames_20, eJ G 8 (fun _ => 0)), (sneeds_21, eI G 8 (fun _ => 0)), (slikes_22, eI G 8 (fun _ => 0)), (shates_23, eI G 8 (fun _ => 0)), (snear_24, eI G 8 (fun _ => 0)), (q25, .inr (7, [.int 0, .int 0, .int 0, .int 0, .int 0, .int 0, .int 0, .int 0, .null, .null, .null]))] H _ := hw
  refine W.widen (k := 24) (n := 1154) (Nat.le_of_ble_eq_true rfl) (Nat.le_of_ble_eq_true rfl) ?_
  refine lv_dup C.1 C.2.1 dX10_init_41 rfl ?_
  refine x_callvIN (As := []) (rest := [.ref q25, .ref qx]) (wr := [(qx, .inr (9, [.ref q1, .ref q5, .ref q15, .null, .null, .null, .null, .null, .null, .null, .null, .null, .null, .int 0, .int 0, .int 0, .int 0])), (q1, .inr (8, [.ref kc_2, .ref bys_3, .int 0, .int 0, .int 0, .int 0, .int 0, .int 0, .long 0, .int 0, .int 0, .int 0])), (kc_2, eJ G 27 fkc_4), (bys_3, eB G 940 (fun _ => 0)), (q5, .inr (4, [.int 0, .int 0, .int 0, .int 0, .int 1, .int 0, .int 40, .int 0, .int 0, .ref sslideNames_6, .ref spictures_7, .ref sheats_8, .ref safter_9, .ref shearerNames_10, .ref sneeds_11, .ref slikes_12, .ref shates_13, .ref snear_14])), (sslideNames_6, eJ G 6 (fun _ => 0)), (spictures_7, eI G 6 (fun _ => 0)), (sheats_8, eI G 6 (fun _ => 0)), (safter_9, eI G 6 (fun _ => 0)), (shearerNames_10, eJ G 8 (fun _ => 0)), (sneeds_11, eI G 8 (fun _ => 0)), (slikes_12, eI G 8 (fun _ => 0)), (shates_13, eI G 8 (fun _ => 0)), (snear_14, eI G 8 (fun _ => 0)), (q15, .inr (4, [.int 0, .int 0, .int 0, .int 0, .int 1, .int 0, .int 40, .int 0, .int 0, .ref sslideNames_16, .ref spictures_17, .ref sheats_18, .ref safter_19, .ref shearerNames_20, .ref sneeds_21, .ref slikes_22, .ref shates_23, .ref snear_24])), (sslideNames_16, eJ G 6 (fun _ => 0)), (spictures_17, eI G 6 (fun _ => 0)), (sheats_18, eI G 6 (fun _ => 0)), (safter_19, eI G 6 (fun _ => 0)), (shearerNames_20, eJ G 8 (fun _ => 0)), (sneeds_21, eI G 8 (fun _ => 0)), (slikes_22, eI G 8 (fun _ => 0)), (shates_23, eI G 8 (fun _ => 0)), (snear_24, eI G 8 (fun _ => 0))]) C hw (c_X8_init q25) mwX8_init (nst1 hw.1) [24] [0, 1, 2, 3, 4, 5, 6, 7, 8, 9, 10, 11, 12, 13, 14, 15, 16, 17, 18, 19, 20, 21, 22, 23] rfl rfl rfl rfl (by decide) rfl hl.1 rfl (Nat.le_of_ble_eq_true rfl) ⟨(Nat.le_of_ble_eq_true rfl), (Nat.le_of_ble_eq_true rfl)⟩ ⟨(Nat.le_of_ble_eq_true rfl), (Nat.le_of_ble_eq_true rfl)⟩ dX10_init_42 (fun  u9 H locs hp9 hw => ?_)
  obtain ⟨apictures_26, ashown_27, asighed_28, rfl⟩ := hp9
  have hw : Wd G s A [(qx, .inr (9, [.ref q1, .ref q5, .ref q15, .null, .null, .null, .null, .null, .null, .null, .null, .null, .null, .int 0, .int 0, .int 0, .int 0])), (q1, .inr (8, [.ref kc_2, .ref bys_3, .int 0, .int 0, .int 0, .int 0, .int 0, .int 0, .long 0, .int 0, .int 0, .int 0])), (kc_2, eJ G 27 fkc_4), (bys_3, eB G 940 (fun _ => 0)), (q5, .inr (4, [.int 0, .int 0, .int 0, .int 0, .int 1, .int 0, .int 40, .int 0, .int 0, .ref sslideNames_6, .ref spictures_7, .ref sheats_8, .ref safter_9, .ref shearerNames_10, .ref sneeds_11, .ref slikes_12, .ref shates_13, .ref snear_14])), (sslideNames_6, eJ G 6 (fun _ => 0)), (spictures_7, eI G 6 (fun _ => 0)), (sheats_8, eI G 6 (fun _ => 0)), (safter_9, eI G 6 (fun _ => 0)), (shearerNames_10, eJ G 8 (fun _ => 0)), (sneeds_11, eI G 8 (fun _ => 0)), (slikes_12, eI G 8 (fun _ => 0)), (shates_13, eI G 8 (fun _ => 0)), (snear_14, eI G 8 (fun _ => 0)), (q15, .inr (4, [.int 0, .int 0, .int 0, .int 0, .int 1, .int 0, .int 40, .int 0, .int 0, .ref sslideNames_16, .ref spictures_17, .ref sheats_18, .ref safter_19, .ref shearerNames_20, .ref sneeds_21, .ref slikes_22, .ref shates_23, .ref snear_24])), (sslideNames_16, eJ G 6 (fun _ => 0)), (spictures_17, eI G 6 (fun _ => 0)), (sheats_18, eI G 6 (fun _ => 0)), (safter_19, eI G 6 (fun _ => 0)), (shearerNames_20, eJ G 8 (fun _ => 0)), (sneeds_21, eI G 8 (fun _ => 0)), (slikes_22, eI G 8 (fun _ => 0)), (shates_23, eI G 8 (fun _ => 0)), (snear_24, eI G 8 (fun _ => 0)), (q25, .inr (7, [.int 0, .int 0, .int 0, .int 0, .int 0, .int 0, .int 0, .int 0, .ref apictures_26, .ref ashown_27, .ref asighed_28])), (apictures_26, eI G 6 (fun _ => 0)), (ashown_27, eI G 6 (fun _ => 0)), (asighed_28, eI G 8 (fun _ => 0))] H _ := hw
  refine W.widen (k := 27) (n := 1174) (Nat.le_of_ble_eq_true rfl) (Nat.le_of_ble_eq_true rfl) ?_
  refine x_putF (w' := [(qx, .inr (9, [.ref q1, .ref q5, .ref q15, .ref q25, .null, .null, .null, .null, .null, .null, .null, .null, .null, .int 0, .int 0, .int 0, .int 0])), (q1, .inr (8, [.ref kc_2, .ref bys_3, .int 0, .int 0, .int 0, .int 0, .int 0, .int 0, .long 0, .int 0, .int 0, .int 0])), (kc_2, eJ G 27 fkc_4), (bys_3, eB G 940 (fun _ => 0)), (q5, .inr (4, [.int 0, .int 0, .int 0, .int 0, .int 1, .int 0, .int 40, .int 0, .int 0, .ref sslideNames_6, .ref spictures_7, .ref sheats_8, .ref safter_9, .ref shearerNames_10, .ref sneeds_11, .ref slikes_12, .ref shates_13, .ref snear_14])), (sslideNames_6, eJ G 6 (fun _ => 0)), (spictures_7, eI G 6 (fun _ => 0)), (sheats_8, eI G 6 (fun _ => 0)), (safter_9, eI G 6 (fun _ => 0)), (shearerNames_10, eJ G 8 (fun _ => 0)), (sneeds_11, eI G 8 (fun _ => 0)), (slikes_12, eI G 8 (fun _ => 0)), (shates_13, eI G 8 (fun _ => 0)), (snear_14, eI G 8 (fun _ => 0)), (q15, .inr (4, [.int 0, .int 0, .int 0, .int 0, .int 1, .int 0, .int 40, .int 0, .int 0, .ref sslideNames_16, .ref spictures_17, .ref sheats_18, .ref safter_19, .ref shearerNames_20, .ref sneeds_21, .ref slikes_22, .ref shates_23, .ref snear_24])), (sslideNames_16, eJ G 6 (fun _ => 0)), (spictures_17, eI G 6 (fun _ => 0)), (sheats_18, eI G 6 (fun _ => 0)), (safter_19, eI G 6 (fun _ => 0)), (shearerNames_20, eJ G 8 (fun _ => 0)), (sneeds_21, eI G 8 (fun _ => 0)), (slikes_22, eI G 8 (fun _ => 0)), (shates_23, eI G 8 (fun _ => 0)), (snear_24, eI G 8 (fun _ => 0)), (q25, .inr (7, [.int 0, .int 0, .int 0, .int 0, .int 0, .int 0, .int 0, .int 0, .ref apictures_26, .ref ashown_27, .ref asighed_28])), (apictures_26, eI G 6 (fun _ => 0)), (ashown_27, eI G 6 (fun _ => 0)), (asighed_28, eI G 8 (fun _ => 0))]) C hw iwX10 tyX10_ok nmX10 B.2.2.2 9 rfl 0 rfl 3 (by decide) kw449 rfl rfl rfl rfl (Nat.le_of_ble_eq_true rfl) rfl dX10_init_45 (fun H locs hw => ?_)
  refine lv_aload_n C.1 C.2.1 dX10_init_48 rfl (lv_at hl 0 rfl) ?_
  refine x_new (fs := [.int 0, .int 0, .int 0, .int 0, .int 0, .int 0, .int 0, .int 0, .null, .null, .null]) C hw iwX8 tyX8_ok 7 rfl kw231 kw232 kw8 (by decide +kernel) (Nat.le_of_ble_eq_true rfl) (Nat.le_of_ble_eq_true rfl) dX10_init_49 (fun q29 H hw => ?_)
  have hw : Wd G s A [(qx, .inr (9, [.ref q1, .ref q5, .ref q15, .ref q25, .null, .null, .null, .null, .null, .null, .null, .null, .null, .int 0, .int 0, .int 0, .int 0])), (q1, .inr (8, [.ref kc_2, .ref bys_3, .int 0, .int 0, .int 0, .int 0, .int 0, .int 0, .long 0, .int 0, .int 0, .int 0])), (kc_2, eJ G 27 fkc_4), (bys_3, eB G 940 (fun _ => 0)), (q5, .inr (4, [.int 0, .int 0, .int 0, .int 0, .int 1, .int 0, .int 40, .int 0, .int 0, .ref sslideNames_6, .ref spictures_7, .ref sheats_8, .ref safter_9, .ref shearerNames_10, .ref sneeds_11, .ref slikes_12, .ref shates_13, .ref snear_14])), (sslideNames_6, eJ G 6 (fun _ => 0)), (spictures_7, eI G 6 (fun _ => 0)), (sheats_8, eI G 6 (fun _ => 0)), (safter_9, eI G 6 (fun _ => 0)), (shearerNames_10, eJ G 8 (fun _ => 0)), (sneeds_11, eI G 8 (fun _ => 0)), (slikes_12, eI G 8 (fun _ => 0)), (shates_13, eI G 8 (fun _ => 0)), (snear_14, eI G 8 (fun _ => 0)), (q15, .inr (4, [.int 0, .int 0, .int 0, .int 0, .int 1, .int 0, .int 40, .int 0, .int 0, .ref sslideNames_16, .ref spictures_17, .ref sheats_18, .ref safter_19, .ref shearerNames_20, .ref sneeds_21, .ref slikes_22, .ref shates_23, .ref snear_24])), (sslideNames_16, eJ G 6 (fun _ => 0)), (spictures_17, eI G 6 (fun _ => 0)), (sheats_18, eI G 6 (fun _ => 0)), (safter_19, eI G 6 (fun _ => 0)), (shearerNames_20, eJ G 8 (fun _ => 0)), (sneeds_21, eI G 8 (fun _ => 0)), (slikes_22, eI G 8 (fun _ => 0)), (shates_23, eI G 8 (fun _ => 0)), (snear_24, eI G 8 (fun _ => 0)), (q25, .inr (7, [.int 0, .int 0, .int 0, .int 0, .int 0, .int 0, .int 0, .int 0, .ref apictures_26, .ref ashown_27, .ref asighed_28])), (apictures_26, eI G 6 (fun _ => 0)), (ashown_27, eI G 6 (fun _ => 0)), (asighed_28, eI G 8 (fun _ => 0)), (q29, .inr (7, [.int 0, .int 0, .int 0, .int 0, .int 0, .int 0, .int 0, .int 0, .null, .null, .null]))] H _ := hw
  refine W.widen (k := 28) (n := 1185) (Nat.le_of_ble_eq_true rfl) (Nat.le_of_ble_eq_true rfl) ?_
  refine lv_dup C.1 C.2.1 dX10_init_52 rfl ?_
  refine x_callvIN (As := []) (rest := [.ref q29, .ref qx]) (wr := [(qx, .inr (9, [.ref q1, .ref q5, .ref q15, .ref q25, .null, .null, .null, .null, .null, .null, .null, .null, .null, .int 0, .int 0, .int 0, .int 0])), (q1, .inr (8, [.ref kc_2, .ref bys_3, .int 0, .int 0, .int 0, .int 0, .int 0, .int 0, .long 0, .int 0, .int 0, .int 0])), (kc_2, eJ G 27 fkc_4), (bys_3, eB G 940 (fun _ => 0)), (q5, .inr (4, [.int 0, .int 0, .int 0, .int 0, .int 1, .int 0, .int 40, .int 0, .int 0, .ref sslideNames_6, .ref spictures_7, .ref sheats_8, .ref safter_9, .ref shearerNames_10, .ref sneeds_11, .ref slikes_12, .ref shates_13, .ref snear_14])), (sslideNames_6, eJ G 6 (fun _ => 0)), (spictures_7, eI G 6 (fun _ => 0)), (sheats_8, eI G 6 (fun _ => 0)), (safter_9, eI G 6 (fun _ => 0)), (shearerNames_10, eJ G 8 (fun _ => 0)), (sneeds_11, eI G 8 (fun _ => 0)), (slikes_12, eI G 8 (fun _ => 0)), (shates_13, eI G 8 (fun _ => 0)), (snear_14, eI G 8 (fun _ => 0)), (q15, .inr (4, [.int 0, .int 0, .int 0, .int 0, .int 1, .int 0, .int 40, .int 0, .int 0, .ref sslideNames_16, .ref spictures_17, .ref sheats_18, .ref safter_19, .ref shearerNames_20, .ref sneeds_21, .ref slikes_22, .ref shates_23, .ref snear_24])), (sslideNames_16, eJ G 6 (fun _ => 0)), (spictures_17, eI G 6 (fun _ => 0)), (sheats_18, eI G 6 (fun _ => 0)), (safter_19, eI G 6 (fun _ => 0)), (shearerNames_20, eJ G 8 (fun _ => 0)), (sneeds_21, eI G 8 (fun _ => 0)), (slikes_22, eI G 8 (fun _ => 0)), (shates_23, eI G 8 (fun _ => 0)), (snear_24, eI G 8 (fun _ => 0)), (q25, .inr (7, [.int 0, .int 0, .int 0, .int 0, .int 0, .int 0, .int 0, .int 0, .ref apictures_26, .ref ashown_27, .ref asighed_28])), (apictures_26, eI G 6 (fun _ => 0)), (ashown_27, eI G 6 (fun _ => 0)), (asighed_28, eI G 8 (fun _ => 0))]) C hw (c_X8_init q29) mwX8_init (nst1 hw.1) [28] [0, 1, 2, 3, 4, 5, 6, 7, 8, 9, 10, 11, 12, 13, 14, 15, 16, 17, 18, 19, 20, 21, 22, 23, 24, 25, 26, 27] rfl rfl rfl rfl (by decide) rfl hl.1 rfl (Nat.le_of_ble_eq_true rfl) ⟨(Nat.le_of_ble_eq_true rfl), (Nat.le_of_ble_eq_true rfl)⟩ ⟨(Nat.le_of_ble_eq_true rfl), (Nat.le_of_ble_eq_true rfl)⟩ dX10_init_53 (fun  u9 H locs hp9 hw => ?_)
  obtain ⟨apictures_30, ashown_31, asighed_32, rfl⟩ := hp9
  have hw : Wd G s A [(qx, .inr (9, [.ref q1, .ref q5, .ref q15, .ref q25, .null, .null, .null, .null, .null, .null, .null, .null, .null, .int 0, .int 0, .int 0, .int 0])), (q1, .inr (8, [.ref kc_2, .ref bys_3, .int 0, .int 0, .int 0, .int 0, .int 0, .int 0, .long 0, .int 0, .int 0, .int 0])), (kc_2, eJ G 27 fkc_4), (bys_3, eB G 940 (fun _ => 0)), (q5, .inr (4, [.int 0, .int 0, .int 0, .int 0, .int 1, .int 0, .int 40, .int 0, .int 0, .ref sslideNames_6, .ref spictures_7, .ref sheats_8, .ref safter_9, .ref shearerNames_10, .ref sneeds_11, .ref slikes_12, .ref shates_13, .ref snear_14])), (sslideNames_6, eJ G 6 (fun _ => 0)), (spictures_7, eI G 6 (fun _ => 0)), (sheats_8, eI G 6 (fun _ => 0)), (safter_9, eI G 6 (fun _ => 0)), (shearerNames_10, eJ G 8 (fun _ => 0)), (sneeds_11, eI G 8 (fun _ => 0)), (slikes_12, eI G 8 (fun _ => 0)), (shates_13, eI G 8 (fun _ => 0)), (snear_14, eI G 8 (fun _ => 0)), (q15, .inr (4, [.int 0, .int 0, .int 0, .int 0, .int 1, .int 0, .int 40, .int 0, .int 0, .ref sslideNames_16, .ref spictures_17, .ref sheats_18, .ref safter_19, .ref shearerNames_20, .ref sneeds_21, .ref slikes_22, .ref shates_23, .ref snear_24])), (sslideNames_16, eJ G 6 (fun _ => 0)), (spictures_17, eI G 6 (fun _ => 0)), (sheats_18, eI G 6 (fun _ => 0)), (safter_19, eI G 6 (fun _ => 0)), (shearerNames_20, eJ G 8 (fun _ => 0)), (sneeds_21, eI G 8 (fun _ => 0)), (slikes_22, eI G 8 (fun _ => 0)), (shates_23, eI G 8 (fun _ => 0)), (snear_24, eI G 8 (fun _ => 0)), (q25, .inr (7, [.int 0, .int 0, .int 0, .int 0, .int 0, .int 0, .int 0, .int 0, .ref apictures_26, .ref ashown_27, .ref asighed_28])), (apictures_26, eI G 6 (fun _ => 0)), (ashown_27, eI G 6 (fun _ => 0)), (asighed_28, eI G 8 (fun _ => 0)), (q29, .inr (7, [.int 0, .int 0, .int 0, .int 0, .int 0, .int 0, .int 0, .int 0, .ref apictures_30, .ref ashown_31, .ref asighed_32])), (apictures_30, eI G 6 (fun _ => 0)), (ashown_31, eI G 6 (fun _ => 0)), (asighed_32, eI G 8 (fun _ => 0))] H _ := hw
  refine W.widen (k := 31) (n := 1205) (Nat.le_of_ble_eq_true rfl) (Nat.le_of_ble_eq_true rfl) ?_
  refine x_putF (w' := [(qx, .inr (9, [.ref q1, .ref q5, .ref q15, .ref q25, .ref q29, .null, .null, .null, .null, .null, .null, .null, .null, .int 0, .int 0, .int 0, .int 0])), (q1, .inr (8, [.ref kc_2, .ref bys_3, .int 0, .int 0, .int 0, .int 0, .int 0, .int 0, .long 0, .int 0, .int 0, .int 0])), (kc_2, eJ G 27 fkc_4), (bys_3, eB G 940 (fun _ => 0)), (q5, .inr (4, [.int 0, .int 0, .int 0, .int 0, .int 1, .int 0, .int 40, .int 0, .int 0, .ref sslideNames_6, .ref spictures_7, .ref sheats_8, .ref safter_9, .ref shearerNames_10, .ref sneeds_11, .ref slikes_12, .ref shates_13, .ref snear_14])), (sslideNames_6, eJ G 6 (fun _ => 0)), (spictures_7, eI G 6 (fun _ => 0)), (sheats_8, eI G 6 (fun _ => 0)), (safter_9, eI G 6 (fun _ => 0)), (shearerNames_10, eJ G 8 (fun _ => 0)), (sneeds_11, eI G 8 (fun _ => 0)), (slikes_12, eI G 8 (fun _ => 0)), (shates_13, eI G 8 (fun _ => 0)), (snear_14, eI G 8 (fun _ => 0)), (q15, .inr (4, [.int 0, .int 0, .int 0, .int 0, .int 1, .int 0, .int 40, .int 0, .int 0, .ref sslideNames_16, .ref spictures_17, .ref sheats_18, .ref safter_19, .ref shearerNames_20, .ref sneeds_21, .ref slikes_22, .ref shates_23, .ref snear_24])), (sslideNames_16, eJ G 6 (fun _ => 0)), (spictures_17, eI G 6 (fun _ => 0)), (sheats_18, eI G 6 (fun _ => 0)), (safter_19, eI G 6 (fun _ => 0)), (shearerNames_20, eJ G 8 (fun _ => 0)), (sneeds_21, eI G 8 (fun _ => 0)), (slikes_22, eI G 8 (fun _ => 0)), (shates_23, eI G 8 (fun _ => 0)), (snear_24, eI G 8 (fun _ => 0)), (q25, .inr (7, [.int 0, .int 0, .int 0, .int 0, .int 0, .int 0, .int 0, .int 0, .ref apictures_26, .ref ashown_27, .ref asighed_28])), (apictures_26, eI G 6 (fun _ => 0)), (ashown_27, eI G 6 (fun _ => 0)), (asighed_28, eI G 8 (fun _ => 0)), (q29, .inr (7, [.int 0, .int 0, .int 0, .int 0, .int 0, .int 0, .int 0, .int 0, .ref apictures_30, .ref ashown_31, .ref asighed_32])), (apictures_30, eI G 6 (fun _ => 0)), (ashown_31, eI G 6 (fun _ => 0)), (asighed_32, eI G 8 (fun _ => 0))]) C hw iwX10 tyX10_ok nmX10 B.2.2.2 9 rfl 0 rfl 4 (by decide) kw450 rfl rfl rfl rfl (Nat.le_of_ble_eq_true rfl) rfl dX10_init_56 (fun H locs hw => ?_)
  refine lv_aload_n C.1 C.2.1 dX10_init_59 rfl (lv_at hl 0 rfl) ?_
  refine x_new (fs := [.null, .int 0, .int 0]) C hw iwX2 tyX2_ok 2 rfl kw294 kw295 kw9 (by decide +kernel) (Nat.le_of_ble_eq_true rfl) (Nat.le_of_ble_eq_true rfl) dX10_init_60 (fun q33 H hw => ?_)
  have hw : Wd G s A [(qx, .inr (9, [.ref q1, .ref q5, .ref q15, .ref q25, .ref q29, .null, .null, .null, .null, .null, .null, .null, .null, .int 0, .int 0, .int 0, .int 0])), (q1, .inr (8, [.ref kc_2, .ref bys_3, .int 0, .int 0, .int 0, .int 0, .int 0, .int 0, .long 0, .int 0, .int 0, .int 0])), (kc_2, eJ G 27 fkc_4), (bys_3, eB G 940 (fun _ => 0)), (q5, .inr (4, [.int 0, .int 0, .int 0, .int 0, .int 1, .int 0, .int 40, .int 0, .int 0, .ref sslideNames_6, .ref spictures_7, .ref sheats_8, .ref safter_9, .ref shearerNames_10, .ref sneeds_11, .ref slikes_12, .ref shates_13, .ref snear_14])), (sslideNames_6, eJ G 6 (fun _ => 0)), (spictures_7, eI G 6 (fun _ => 0)), (sheats_8, eI G 6 (fun _ => 0)), (safter_9, eI G 6 (fun _ => 0)), (shearerNames_10, eJ G 8 (fun _ => 0)), (sneeds_11, eI G 8 (fun _ => 0)), (slikes_12, eI G 8 (fun _ => 0)), (shates_13, eI G 8 (fun _ => 0)), (snear_14, eI G 8 (fun _ => 0)), (q15, .inr (4, [.int 0, .int 0, .int 0, .int 0, .int 1, .int 0, .int 40, .int 0, .int 0, .ref sslideNames_16, .ref spictures_17, .ref sheats_18, .ref safter_19, .ref shearerNames_20, .ref sneeds_21, .ref slikes_22, .ref shates_23, .ref snear_24])), (sslideNames_16, eJ G 6 (fun _ => 0)), (spictures_17, eI G 6 (fun _ => 0)), (sheats_18, eI G 6 (fun _ => 0)), (safter_19, eI G 6 (fun _ => 0)), (shearerNames_20, eJ G 8 (fun _ => 0)), (sneeds_21, eI G 8 (fun _ => 0)), (slikes_22, eI G 8 (fun _ => 0)), (shates_23, eI G 8 (fun _ => 0)), (snear_24, eI G 8 (fun _ => 0)), (q25, .inr (7, [.int 0, .int 0, .int 0, .int 0, .int 0, .int 0, .int 0, .int 0, .ref apictures_26, .ref ashown_27, .ref asighed_28])), (apictures_26, eI G 6 (fun _ => 0)), (ashown_27, eI G 6 (fun _ => 0)), (asighed_28, eI G 8 (fun _ => 0)), (q29, .inr (7, [.int 0, .int 0, .int 0, .int 0, .int 0, .int 0, .int 0, .int 0, .ref apictures_30, .ref ashown_31, .ref asighed_32])), (apictures_30, eI G 6 (fun _ => 0)), (ashown_31, eI G 6 (fun _ => 0)), (asighed_32, eI G 8 (fun _ => 0)), (q33, .inr (2, [.null, .int 0, .int 0]))] H _ := hw
  refine W.widen (k := 32) (n := 1208) (Nat.le_of_ble_eq_true rfl) (Nat.le_of_ble_eq_true rfl) ?_
  refine lv_dup C.1 C.2.1 dX10_init_63 rfl ?_
  refine x_callvI (As := []) (rest := [.ref q33, .ref qx]) (wr := [(qx, .inr (9, [.ref q1, .ref q5, .ref q15, .ref q25, .ref q29, .null, .null, .null, .null, .null, .null, .null, .null, .int 0, .int 0, .int 0, .int 0])), (q1, .inr (8, [.ref kc_2, .ref bys_3, .int 0, .int 0, .int 0, .int 0, .int 0, .int 0, .long 0, .int 0, .int 0, .int 0])), (kc_2, eJ G 27 fkc_4), (bys_3, eB G 940 (fun _ => 0)), (q5, .inr (4, [.int 0, .int 0, .int 0, .int 0, .int 1, .int 0, .int 40, .int 0, .int 0, .ref sslideNames_6, .ref spictures_7, .ref sheats_8, .ref safter_9, .ref shearerNames_10, .ref sneeds_11, .ref slikes_12, .ref shates_13, .ref snear_14])), (sslideNames_6, eJ G 6 (fun _ => 0)), (spictures_7, eI G 6 (fun _ => 0)), (sheats_8, eI G 6 (fun _ => 0)), (safter_9, eI G 6 (fun _ => 0)), (shearerNames_10, eJ G 8 (fun _ => 0)), (sneeds_11, eI G 8 (fun _ => 0)), (slikes_12, eI G 8 (fun _ => 0)), (shates_13, eI G 8 (fun _ => 0)), (snear_14, eI G 8 (fun _ => 0)), (q15, .inr (4, [.int 0, .int 0, .int 0, .int 0, .int 1, .int 0, .int 40, .int 0, .int 0, .ref sslideNames_16, .ref spictures_17, .ref sheats_18, .ref safter_19, .ref shearerNames_20, .ref sneeds_21, .ref slikes_22, .ref shates_23, .ref snear_24])), (sslideNames_16, eJ G 6 (fun _ => 0)), (spictures_17, eI G 6 (fun _ => 0)), (sheats_18, eI G 6 (fun _ => 0)), (safter_19, eI G 6 (fun _ => 0)), (shearerNames_20, eJ G 8 (fun _ => 0)), (sneeds_21, eI G 8 (fun _ => 0)), (slikes_22, eI G 8 (fun _ => 0)), (shates_23, eI G 8 (fun _ => 0)), (snear_24, eI G 8 (fun _ => 0)), (q25, .inr (7, [.int 0, .int 0, .int 0, .int 0, .int 0, .int 0, .int 0, .int 0, .ref apictures_26, .ref ashown_27, .ref asighed_28])), (apictures_26, eI G 6 (fun _ => 0)), (ashown_27, eI G 6 (fun _ => 0)), (asighed_28, eI G 8 (fun _ => 0)), (q29, .inr (7, [.int 0, .int 0, .int 0, .int 0, .int 0, .int 0, .int 0, .int 0, .ref apictures_30, .ref ashown_31, .ref asighed_32])), (apictures_30, eI G 6 (fun _ => 0)), (ashown_31, eI G 6 (fun _ => 0)), (asighed_32, eI G 8 (fun _ => 0))]) C hw (c_X2_init q33) mwX2_init kw296 [32] [0, 1, 2, 3, 4, 5, 6, 7, 8, 9, 10, 11, 12, 13, 14, 15, 16, 17, 18, 19, 20, 21, 22, 23, 24, 25, 26, 27, 28, 29, 30, 31] rfl rfl rfl rfl (by decide) rfl hl.1 rfl (Nat.le_of_ble_eq_true rfl) ⟨(Nat.le_of_ble_eq_true rfl), (Nat.le_of_ble_eq_true rfl)⟩ ⟨(Nat.le_of_ble_eq_true rfl), (Nat.le_of_ble_eq_true rfl)⟩ dX10_init_64 (fun  u9 H locs hp9 hw => ?_)
  obtain ⟨hk_34, hf_35, hs_36, hpictures_37, hshown_38, hsighed_39, rfl, hf40⟩ := hp9
  have hw : Wd G s A [(qx, .inr (9, [.ref q1, .ref q5, .ref q15, .ref q25, .ref q29, .null, .null, .null, .null, .null, .null, .null, .null, .int 0, .int 0, .int 0, .int 0])), (q1, .inr (8, [.ref kc_2, .ref bys_3, .int 0, .int 0, .int 0, .int 0, .int 0, .int 0, .long 0, .int 0, .int 0, .int 0])), (kc_2, eJ G 27 fkc_4), (bys_3, eB G 940 (fun _ => 0)), (q5, .inr (4, [.int 0, .int 0, .int 0, .int 0, .int 1, .int 0, .int 40, .int 0, .int 0, .ref sslideNames_6, .ref spictures_7, .ref sheats_8, .ref safter_9, .ref shearerNames_10, .ref sneeds_11, .ref slikes_12, .ref shates_13, .ref snear_14])), (sslideNames_6, eJ G 6 (fun _ => 0)), (spictures_7, eI G 6 (fun _ => 0)), (sheats_8, eI G 6 (fun _ => 0)), (safter_9, eI G 6 (fun _ => 0)), (shearerNames_10, eJ G 8 (fun _ => 0)), (sneeds_11, eI G 8 (fun _ => 0)), (slikes_12, eI G 8 (fun _ => 0)), (shates_13, eI G 8 (fun _ => 0)), (snear_14, eI G 8 (fun _ => 0)), (q15, .inr (4, [.int 0, .int 0, .int 0, .int 0, .int 1, .int 0, .int 40, .int 0, .int 0, .ref sslideNames_16, .ref spictures_17, .ref sheats_18, .ref safter_19, .ref shearerNames_20, .ref sneeds_21, .ref slikes_22, .ref shates_23, .ref snear_24])), (sslideNames_16, eJ G 6 (fun _ => 0)), (spictures_17, eI G 6 (fun _ => 0)), (sheats_18, eI G 6 (fun _ => 0)), (safter_19, eI G 6 (fun _ => 0)), (shearerNames_20, eJ G 8 (fun _ => 0)), (sneeds_21, eI G 8 (fun _ => 0)), (slikes_22, eI G 8 (fun _ => 0)), (shates_23, eI G 8 (fun _ => 0)), (snear_24, eI G 8 (fun _ => 0)), (q25, .inr (7, [.int 0, .int 0, .int 0, .int 0, .int 0, .int 0, .int 0, .int 0, .ref apictures_26, .ref ashown_27, .ref asighed_28])), (apictures_26, eI G 6 (fun _ => 0)), (ashown_27, eI G 6 (fun _ => 0)), (asighed_28, eI G 8 (fun _ => 0)), (q29, .inr (7, [.int 0, .int 0, .int 0, .int 0, .int 0, .int 0, .int 0, .int 0, .ref apictures_30, .ref ashown_31, .ref asighed_32])), (apictures_30, eI G 6 (fun _ => 0)), (ashown_31, eI G 6 (fun _ => 0)), (asighed_32, eI G 8 (fun _ => 0)), (q33, .inr (2, [.ref hk_34, .int 0, .int 0])), (hk_34, eSt G 8 hf_35), (hs_36, .inr (7, [.int 0, .int 0, .int 0, .int 0, .int 0, .int 0, .int 0, .int 0, .ref hpictures_37, .ref hshown_38, .ref hsighed_39])), (hpictures_37, eI G 6 (fun _ => 0)), (hshown_38, eI G 6 (fun _ => 0)), (hsighed_39, eI G 8 (fun _ => 0))] H _ := hw
  refine W.widen (k := 65) (n := 1464) (Nat.le_of_ble_eq_true rfl) (Nat.le_of_ble_eq_true rfl) ?_
  refine x_putF (w' := [(qx, .inr (9, [.ref q1, .ref q5, .ref q15, .ref q25, .ref q29, .ref q33, .null, .null, .null, .null, .null, .null, .null, .int 0, .int 0, .int 0, .int 0])), (q1, .inr (8, [.ref kc_2, .ref bys_3, .int 0, .int 0, .int 0, .int 0, .int 0, .int 0, .long 0, .int 0, .int 0, .int 0])), (kc_2, eJ G 27 fkc_4), (bys_3, eB G 940 (fun _ => 0)), (q5, .inr (4, [.int 0, .int 0, .int 0, .int 0, .int 1, .int 0, .int 40, .int 0, .int 0, .ref sslideNames_6, .ref spictures_7, .ref sheats_8, .ref safter_9, .ref shearerNames_10, .ref sneeds_11, .ref slikes_12, .ref shates_13, .ref snear_14])), (sslideNames_6, eJ G 6 (fun _ => 0)), (spictures_7, eI G 6 (fun _ => 0)), (sheats_8, eI G 6 (fun _ => 0)), (safter_9, eI G 6 (fun _ => 0)), (shearerNames_10, eJ G 8 (fun _ => 0)), (sneeds_11, eI G 8 (fun _ => 0)), (slikes_12, eI G 8 (fun _ => 0)), (shates_13, eI G 8 (fun _ => 0)), (snear_14, eI G 8 (fun _ => 0)), (q15, .inr (4, [.int 0, .int 0, .int 0, .int 0, .int 1, .int 0, .int 40, .int 0, .int 0, .ref sslideNames_16, .ref spictures_17, .ref sheats_18, .ref safter_19, .ref shearerNames_20, .ref sneeds_21, .ref slikes_22, .ref shates_23, .ref snear_24])), (sslideNames_16, eJ G 6 (fun _ => 0)), (spictures_17, eI G 6 (fun _ => 0)), (sheats_18, eI G 6 (fun _ => 0)), (safter_19, eI G 6 (fun _ => 0)), (shearerNames_20, eJ G 8 (fun _ => 0)), (sneeds_21, eI G 8 (fun _ => 0)), (slikes_22, eI G 8 (fun _ => 0)), (shates_23, eI G 8 (fun _ => 0)), (snear_24, eI G 8 (fun _ => 0)), (q25, .inr (7, [.int 0, .int 0, .int 0, .int 0, .int 0, .int 0, .int 0, .int 0, .ref apictures_26, .ref ashown_27, .ref asighed_28])), (apictures_26, eI G 6 (fun _ => 0)), (ashown_27, eI G 6 (fun _ => 0)), (asighed_28, eI G 8 (fun _ => 0)), (q29, .inr (7, [.int 0, .int 0, .int 0, .int 0, .int 0, .int 0, .int 0, .int 0, .ref apictures_30, .ref ashown_31, .ref asighed_32])), (apictures_30, eI G 6 (fun _ => 0)), (ashown_31, eI G 6 (fun _ => 0)), (asighed_32, eI G 8 (fun _ => 0)), (q33, .inr (2, [.ref hk_34, .int 0, .int 0])), (hk_34, eSt G 8 hf_35), (hs_36, .inr (7, [.int 0, .int 0, .int 0, .int 0, .int 0, .int 0, .int 0, .int 0, .ref hpictures_37, .ref hshown_38, .ref hsighed_39])), (hpictures_37, eI G 6 (fun _ => 0)), (hshown_38, eI G 6 (fun _ => 0)), (hsighed_39, eI G 8 (fun _ => 0))]) C hw iwX10 tyX10_ok nmX10 B.2.2.2 9 rfl 0 rfl 5 (by decide) kw451 rfl rfl rfl rfl (Nat.le_of_ble_eq_true rfl) rfl dX10_init_67 (fun H locs hw => ?_)
  refine lv_aload_n C.1 C.2.1 dX10_init_70 rfl (lv_at hl 0 rfl) ?_
  refine x_new (fs := [.int 0, .int 0, .int 0, .null, .null, .null, .null]) C hw iwX7 tyX7_ok 6 rfl kw314 kw315 kw10 (by decide +kernel) (Nat.le_of_ble_eq_true rfl) (Nat.le_of_ble_eq_true rfl) dX10_init_71 (fun q41 H hw => ?_)
  have hw : Wd G s A [(qx, .inr (9, [.ref q1, .ref q5, .ref q15, .ref q25, .ref q29, .ref q33, .null, .null, .null, .null, .null, .null, .null, .int 0, .int 0, .int 0, .int 0])), (q1, .inr (8, [.ref kc_2, .ref bys_3, .int 0, .int 0, .int 0, .int 0, .int 0, .int 0, .long 0, .int 0, .int 0, .int 0])), (kc_2, eJ G 27 fkc_4), (bys_3, eB G 940 (fun _ => 0)), (q5, .inr (4, [.int 0, .int 0, .int 0, .int 0, .int 1, .int 0, .int 40, .int 0, .int 0, .ref sslideNames_6, .ref spictures_7, .ref sheats_8, .ref safter_9, .ref shearerNames_10, .ref sneeds_11, .ref slikes_12, .ref shates_13, .ref snear_14])), (sslideNames_6, eJ G 6 (fun _ => 0)), (spictures_7, eI G 6 (fun _ => 0)), (sheats_8, eI G 6 (fun _ => 0)), (safter_9, eI G 6 (fun _ => 0)), (shearerNames_10, eJ G 8 (fun _ => 0)), (sneeds_11, eI G 8 (fun _ => 0)), (slikes_12, eI G 8 (fun _ => 0)), (shates_13, eI G 8 (fun _ => 0)), (snear_14, eI G 8 (fun _ => 0)), (q15, .inr (4, [.int 0, .int 0, .int 0, .int 0, .int 1, .int 0, .int 40, .int 0, .int 0, .ref sslideNames_16, .ref spictures_17, .ref sheats_18, .ref safter_19, .ref shearerNames_20, .ref sneeds_21, .ref slikes_22, .ref shates_23, .ref snear_24])), (sslideNames_16, eJ G 6 (fun _ => 0)), (spictures_17, eI G 6 (fun _ => 0)), (sheats_18, eI G 6 (fun _ => 0)), (safter_19, eI G 6 (fun _ => 0)), (shearerNames_20, eJ G 8 (fun _ => 0)), (sneeds_21, eI G 8 (fun _ => 0)), (slikes_22, eI G 8 (fun _ => 0)), (shates_23, eI G 8 (fun _ => 0)), (snear_24, eI G 8 (fun _ => 0)), (q25, .inr (7, [.int 0, .int 0, .int 0, .int 0, .int 0, .int 0, .int 0, .int 0, .ref apictures_26, .ref ashown_27, .ref asighed_28])), (apictures_26, eI G 6 (fun _ => 0)), (ashown_27, eI G 6 (fun _ => 0)), (asighed_28, eI G 8 (fun _ => 0)), (q29, .inr (7, [.int 0, .int 0, .int 0, .int 0, .int 0, .int 0, .int 0, .int 0, .ref apictures_30, .ref ashown_31, .ref asighed_32])), (apictures_30, eI G 6 (fun _ => 0)), (ashown_31, eI G 6 (fun _ => 0)), (asighed_32, eI G 8 (fun _ => 0)), (q33, .inr (2, [.ref hk_34, .int 0, .int 0])), (hk_34, eSt G 8 hf_35), (hs_36, .inr (7, [.int 0, .int 0, .int 0, .int 0, .int 0, .int 0, .int 0, .int 0, .ref hpictures_37, .ref hshown_38, .ref hsighed_39])), (hpictures_37, eI G 6 (fun _ => 0)), (hshown_38, eI G 6 (fun _ => 0)), (hsighed_39, eI G 8 (fun _ => 0)), (q41, .inr (6, [.int 0, .int 0, .int 0, .null, .null, .null, .null]))] H _ := hw
  refine W.widen (k := 66) (n := 1471) (Nat.le_of_ble_eq_true rfl) (Nat.le_of_ble_eq_true rfl) ?_
  refine lv_dup C.1 C.2.1 dX10_init_74 rfl ?_
  refine x_callvIN (As := []) (rest := [.ref q41, .ref qx]) (wr := [(qx, .inr (9, [.ref q1, .ref q5, .ref q15, .ref q25, .ref q29, .ref q33, .null, .null, .null, .null, .null, .null, .null, .int 0, .int 0, .int 0, .int 0])), (q1, .inr (8, [.ref kc_2, .ref bys_3, .int 0, .int 0, .int 0, .int 0, .int 0, .int 0, .long 0, .int 0, .int 0, .int 0])), (kc_2, eJ G 27 fkc_4), (bys_3, eB G 940 (fun _ => 0)), (q5, .inr (4, [.int 0, .int 0, .int 0, .int 0, .int 1, .int 0, .int 40, .int 0, .int 0, .ref sslideNames_6, .ref spictures_7, .ref sheats_8, .ref safter_9, .ref shearerNames_10, .ref sneeds_11, .ref slikes_12, .ref shates_13, .ref snear_14])), (sslideNames_6, eJ G 6 (fun _ => 0)), (spictures_7, eI G 6 (fun _ => 0)), (sheats_8, eI G 6 (fun _ => 0)), (safter_9, eI G 6 (fun _ => 0)), (shearerNames_10, eJ G 8 (fun _ => 0)), (sneeds_11, eI G 8 (fun _ => 0)), (slikes_12, eI G 8 (fun _ => 0)), (shates_13, eI G 8 (fun _ => 0)), (snear_14, eI G 8 (fun _ => 0)), (q15, .inr (4, [.int 0, .int 0, .int 0, .int 0, .int 1, .int 0, .int 40, .int 0, .int 0, .ref sslideNames_16, .ref spictures_17, .ref sheats_18, .ref safter_19, .ref shearerNames_20, .ref sneeds_21, .ref slikes_22, .ref shates_23, .ref snear_24])), (sslideNames_16, eJ G 6 (fun _ => 0)), (spictures_17, eI G 6 (fun _ => 0)), (sheats_18, eI G 6 (fun _ => 0)), (safter_19, eI G 6 (fun _ => 0)), (shearerNames_20, eJ G 8 (fun _ => 0)), (sneeds_21, eI G 8 (fun _ => 0)), (slikes_22, eI G 8 (fun _ => 0)), (shates_23, eI G 8 (fun _ => 0)), (snear_24, eI G 8 (fun _ => 0)), (q25, .inr (7, [.int 0, .int 0, .int 0, .int 0, .int 0, .int 0, .int 0, .int 0, .ref apictures_26, .ref ashown_27, .ref asighed_28])), (apictures_26, eI G 6 (fun _ => 0)), (ashown_27, eI G 6 (fun _ => 0)), (asighed_28, eI G 8 (fun _ => 0)), (q29, .inr (7, [.int 0, .int 0, .int 0, .int 0, .int 0, .int 0, .int 0, .int 0, .ref apictures_30, .ref ashown_31, .ref asighed_32])), (apictures_30, eI G 6 (fun _ => 0)), (ashown_31, eI G 6 (fun _ => 0)), (asighed_32, eI G 8 (fun _ => 0)), (q33, .inr (2, [.ref hk_34, .int 0, .int 0])), (hk_34, eSt G 8 hf_35), (hs_36, .inr (7, [.int 0, .int 0, .int 0, .int 0, .int 0, .int 0, .int 0, .int 0, .ref hpictures_37, .ref hshown_38, .ref hsighed_39])), (hpictures_37, eI G 6 (fun _ => 0)), (hshown_38, eI G 6 (fun _ => 0)), (hsighed_39, eI G 8 (fun _ => 0))]) C hw (c_X7_init q41) mwX7_init (nst3 hw.1) [38] [0, 1, 2, 3, 4, 5, 6, 7, 8, 9, 10, 11, 12, 13, 14, 15, 16, 17, 18, 19, 20, 21, 22, 23, 24, 25, 26, 27, 28, 29, 30, 31, 32, 33, 34, 35, 36, 37] rfl rfl rfl rfl (by decide) rfl hl.1 rfl (Nat.le_of_ble_eq_true rfl) ⟨(Nat.le_of_ble_eq_true rfl), (Nat.le_of_ble_eq_true rfl)⟩ ⟨(Nat.le_of_ble_eq_true rfl), (Nat.le_of_ble_eq_true rfl)⟩ dX10_init_75 (fun  u9 H locs hp9 hw => ?_)
  obtain ⟨rkeys_42, rsigns_43, rnumbers_44, rstack_45, rfl⟩ := hp9
  have hw : Wd G s A [(qx, .inr (9, [.ref q1, .ref q5, .ref q15, .ref q25, .ref q29, .ref q33, .null, .null, .null, .null, .null, .null, .null, .int 0, .int 0, .int 0, .int 0])), (q1, .inr (8, [.ref kc_2, .ref bys_3, .int 0, .int 0, .int 0, .int 0, .int 0, .int 0, .long 0, .int 0, .int 0, .int 0])), (kc_2, eJ G 27 fkc_4), (bys_3, eB G 940 (fun _ => 0)), (q5, .inr (4, [.int 0, .int 0, .int 0, .int 0, .int 1, .int 0, .int 40, .int 0, .int 0, .ref sslideNames_6, .ref spictures_7, .ref sheats_8, .ref safter_9, .ref shearerNames_10, .ref sneeds_11, .ref slikes_12, .ref shates_13, .ref snear_14])), (sslideNames_6, eJ G 6 (fun _ => 0)), (spictures_7, eI G 6 (fun _ => 0)), (sheats_8, eI G 6 (fun _ => 0)), (safter_9, eI G 6 (fun _ => 0)), (shearerNames_10, eJ G 8 (fun _ => 0)), (sneeds_11, eI G 8 (fun _ => 0)), (slikes_12, eI G 8 (fun _ => 0)), (shates_13, eI G 8 (fun _ => 0)), (snear_14, eI G 8 (fun _ => 0)), (q15, .inr (4, [.int 0, .int 0, .int 0, .int 0, .int 1, .int 0, .int 40, .int 0, .int 0, .ref sslideNames_16, .ref spictures_17, .ref sheats_18, .ref safter_19, .ref shearerNames_20, .ref sneeds_21, .ref slikes_22, .ref shates_23, .ref snear_24])), (sslideNames_16, eJ G 6 (fun _ => 0)), (spictures_17, eI G 6 (fun _ => 0)), (sheats_18, eI G 6 (fun _ => 0)), (safter_19, eI G 6 (fun _ => 0)), (shearerNames_20, eJ G 8 (fun _ => 0)), (sneeds_21, eI G 8 (fun _ => 0)), (slikes_22, eI G 8 (fun _ => 0)), (shates_23, eI G 8 (fun _ => 0)), (snear_24, eI G 8 (fun _ => 0)), (q25, .inr (7, [.int 0, .int 0, .int 0, .int 0, .int 0, .int 0, .int 0, .int 0, .ref apictures_26, .ref ashown_27, .ref asighed_28])), (apictures_26, eI G 6 (fun _ => 0)), (ashown_27, eI G 6 (fun _ => 0)), (asighed_28, eI G 8 (fun _ => 0)), (q29, .inr (7, [.int 0, .int 0, .int 0, .int 0, .int 0, .int 0, .int 0, .int 0, .ref apictures_30, .ref ashown_31, .ref asighed_32])), (apictures_30, eI G 6 (fun _ => 0)), (ashown_31, eI G 6 (fun _ => 0)), (asighed_32, eI G 8 (fun _ => 0)), (q33, .inr (2, [.ref hk_34, .int 0, .int 0])), (hk_34, eSt G 8 hf_35), (hs_36, .inr (7, [.int 0, .int 0, .int 0, .int 0, .int 0, .int 0, .int 0, .int 0, .ref hpictures_37, .ref hshown_38, .ref hsighed_39])), (hpictures_37, eI G 6 (fun _ => 0)), (hshown_38, eI G 6 (fun _ => 0)), (hsighed_39, eI G 8 (fun _ => 0)), (q41, .inr (6, [.int 0, .int 0, .int 0, .ref rkeys_42, .ref rsigns_43, .ref rnumbers_44, .ref rstack_45])), (rkeys_42, eI G 40 (fun _ => 0)), (rsigns_43, eI G 40 (fun _ => 0)), (rnumbers_44, eI G 40 (fun _ => 0)), (rstack_45, eI G 40 (fun _ => 0))] H _ := hw
  refine W.widen (k := 70) (n := 1631) (Nat.le_of_ble_eq_true rfl) (Nat.le_of_ble_eq_true rfl) ?_
  refine x_putF (w' := [(qx, .inr (9, [.ref q1, .ref q5, .ref q15, .ref q25, .ref q29, .ref q33, .ref q41, .null, .null, .null, .null, .null, .null, .int 0, .int 0, .int 0, .int 0])), (q1, .inr (8, [.ref kc_2, .ref bys_3, .int 0, .int 0, .int 0, .int 0, .int 0, .int 0, .long 0, .int 0, .int 0, .int 0])), (kc_2, eJ G 27 fkc_4), (bys_3, eB G 940 (fun _ => 0)), (q5, .inr (4, [.int 0, .int 0, .int 0, .int 0, .int 1, .int 0, .int 40, .int 0, .int 0, .ref sslideNames_6, .ref spictures_7, .ref sheats_8, .ref safter_9, .ref shearerNames_10, .ref sneeds_11, .ref slikes_12, .ref shates_13, .ref snear_14])), (sslideNames_6, eJ G 6 (fun _ => 0)), (spictures_7, eI G 6 (fun _ => 0)), (sheats_8, eI G 6 (fun _ => 0)), (safter_9, eI G 6 (fun _ => 0)), (shearerNames_10, eJ G 8 (fun _ => 0)), (sneeds_11, eI G 8 (fun _ => 0)), (slikes_12, eI G 8 (fun _ => 0)), (shates_13, eI G 8 (fun _ => 0)), (snear_14, eI G 8 (fun _ => 0)), (q15, .inr (4, [.int 0, .int 0, .int 0, .int 0, .int 1, .int 0, .int 40, .int 0, .int 0, .ref sslideNames_16, .ref spictures_17, .ref sheats_18, .ref safter_19, .ref shearerNames_20, .ref sneeds_21, .ref slikes_22, .ref shates_23, .ref snear_24])), (sslideNames_16, eJ G 6 (fun _ => 0)), (spictures_17, eI G 6 (fun _ => 0)), (sheats_18, eI G 6 (fun _ => 0)), (safter_19, eI G 6 (fun _ => 0)), (shearerNames_20, eJ G 8 (fun _ => 0)), (sneeds_21, eI G 8 (fun _ => 0)), (slikes_22, eI G 8 (fun _ => 0)), (shates_23, eI G 8 (fun _ => 0)), (snear_24, eI G 8 (fun _ => 0)), (q25, .inr (7, [.int 0, .int 0, .int 0, .int 0, .int 0, .int 0, .int 0, .int 0, .ref apictures_26, .ref ashown_27, .ref asighed_28])), (apictures_26, eI G 6 (fun _ => 0)), (ashown_27, eI G 6 (fun _ => 0)), (asighed_28, eI G 8 (fun _ => 0)), (q29, .inr (7, [.int 0, .int 0, .int 0, .int 0, .int 0, .int 0, .int 0, .int 0, .ref apictures_30, .ref ashown_31, .ref asighed_32])), (apictures_30, eI G 6 (fun _ => 0)), (ashown_31, eI G 6 (fun _ => 0)), (asighed_32, eI G 8 (fun _ => 0)), (q33, .inr (2, [.ref hk_34, .int 0, .int 0])), (hk_34, eSt G 8 hf_35), (hs_36, .inr (7, [.int 0, .int 0, .int 0, .int 0, .int 0, .int 0, .int 0, .int 0, .ref hpictures_37, .ref hshown_38, .ref hsighed_39])), (hpictures_37, eI G 6 (fun _ => 0)), (hshown_38, eI G 6 (fun _ => 0)), (hsighed_39, eI G 8 (fun _ => 0)), (q41, .inr (6, [.int 0, .int 0, .int 0, .ref rkeys_42, .ref rsigns_43, .ref rnumbers_44, .ref rstack_45])), (rkeys_42, eI G 40 (fun _ => 0)), (rsigns_43, eI G 40 (fun _ => 0)), (rnumbers_44, eI G 40 (fun _ => 0)), (rstack_45, eI G 40 (fun _ => 0))]) C hw iwX10 tyX10_ok nmX10 B.2.2.2 9 rfl 0 rfl 6 (by decide) kw452 rfl rfl rfl rfl (Nat.le_of_ble_eq_true rfl) rfl dX10_init_78 (fun H locs hw => ?_)
  refine lv_aload_n C.1 C.2.1 dX10_init_81 rfl (lv_at hl 0 rfl) ?_
  refine x_new (fs := [.int 0, .int 0, .int 0, .null, .null, .null, .null]) C hw iwX7 tyX7_ok 6 rfl kw314 kw315 kw10 (by decide +kernel) (Nat.le_of_ble_eq_true rfl) (Nat.le_of_ble_eq_true rfl) dX10_init_82 (fun q46 H hw => ?_)
  have hw : Wd G s A [(qx, .inr (9, [.ref q1, .ref q5, .ref q15, .ref q25, .ref q29, .ref q33, .ref q41, .null, .null, .null, .null, .null, .null, .int 0, .int 0, .int 0, .int 0])), (q1, .inr (8, [.ref kc_2, .ref bys_3, .int 0, .int 0, .int 0, .int 0, .int 0, .int 0, .long 0, .int 0, .int 0, .int 0])), (kc_2, eJ G 27 fkc_4), (bys_3, eB G 940 (fun _ => 0)), (q5, .inr (4, [.int 0, .int 0, .int 0, .int 0, .int 1, .int 0, .int 40, .int 0, .int 0, .ref sslideNames_6, .ref spictures_7, .ref sheats_8, .ref safter_9, .ref shearerNames_10, .ref sneeds_11, .ref slikes_12, .ref shates_13, .ref snear_14])), (sslideNames_6, eJ G 6 (fun _ => 0)), (spictures_7, eI G 6 (fun _ => 0)), (sheats_8, eI G 6 (fun _ => 0)), (safter_9, eI G 6 (fun _ => 0)), (shearerNames_10, eJ G 8 (fun _ => 0)), (sneeds_11, eI G 8 (fun _ => 0)), (slikes_12, eI G 8 (fun _ => 0)), (shates_13, eI G 8 (fun _ => 0)), (snear_14, eI G 8 (fun _ => 0)), (q15, .inr (4, [.int 0, .int 0, .int 0, .int 0, .int 1, .int 0, .int 40, .int 0, .int 0, .ref sslideNames_16, .ref spictures_17, .ref sheats_18, .ref safter_19, .ref shearerNames_20, .ref sneeds_21, .ref slikes_22, .ref shates_23, .ref snear_24])), (sslideNames_16, eJ G 6 (fun _ => 0)), (spictures_17, eI G 6 (fun _ => 0)), (sheats_18, eI G 6 (fun _ => 0)), (safter_19, eI G 6 (fun _ => 0)), (shearerNames_20, eJ G 8 (fun _ => 0)), (sneeds_21, eI G 8 (fun _ => 0)), (slikes_22, eI G 8 (fun _ => 0)), (shates_23, eI G 8 (fun _ => 0)), (snear_24, eI G 8 (fun _ => 0)), (q25, .inr (7, [.int 0, .int 0, .int 0, .int 0, .int 0, .int 0, .int 0, .int 0, .ref apictures_26, .ref ashown_27, .ref asighed_28])), (apictures_26, eI G 6 (fun _ => 0)), (ashown_27, eI G 6 (fun _ => 0)), (asighed_28, eI G 8 (fun _ => 0)), (q29, .inr (7, [.int 0, .int 0, .int 0, .int 0, .int 0, .int 0, .int 0, .int 0, .ref apictures_30, .ref ashown_31, .ref asighed_32])), (apictures_30, eI G 6 (fun _ => 0)), (ashown_31, eI G 6 (fun _ => 0)), (asighed_32, eI G 8 (fun _ => 0)), (q33, .inr (2, [.ref hk_34, .int 0, .int 0])), (hk_34, eSt G 8 hf_35), (hs_36, .inr (7, [.int 0, .int 0, .int 0, .int 0, .int 0, .int 0, .int 0, .int 0, .ref hpictures_37, .ref hshown_38, .ref hsighed_39])), (hpictures_37, eI G 6 (fun _ => 0)), (hshown_38, eI G 6 (fun _ => 0)), (hsighed_39, eI G 8 (fun _ => 0)), (q41, .inr (6, [.int 0, .int 0, .int 0, .ref rkeys_42, .ref rsigns_43, .ref rnumbers_44, .ref rstack_45])), (rkeys_42, eI G 40 (fun _ => 0)), (rsigns_43, eI G 40 (fun _ => 0)), (rnumbers_44, eI G 40 (fun _ => 0)), (rstack_45, eI G 40 (fun _ => 0)), (q46, .inr (6, [.int 0, .int 0, .int 0, .null, .null, .null, .null]))] H _ := hw
  refine W.widen (k := 71) (n := 1638) (Nat.le_of_ble_eq_true rfl) (Nat.le_of_ble_eq_true rfl) ?_
  refine lv_dup C.1 C.2.1 dX10_init_85 rfl ?_
  refine x_callvIN (As := []) (rest := [.ref q46, .ref qx]) (wr := [(qx, .inr (9, [.ref q1, .ref q5, .ref q15, .ref q25, .ref q29, .ref q33, .ref q41, .null, .null, .null, .null, .null, .null, .int 0, .int 0, .int 0, .int 0])), (q1, .inr (8, [.ref kc_2, .ref bys_3, .int 0, .int 0, .int 0, .int 0, .int 0, .int 0, .long 0, .int 0, .int 0, .int 0])), (kc_2, eJ G 27 fkc_4), (bys_3, eB G 940 (fun _ => 0)), (q5, .inr (4, [.int 0, .int 0, .int 0, .int 0, .int 1, .int 0, .int 40, .int 0, .int 0, .ref sslideNames_6, .ref spictures_7, .ref sheats_8, .ref safter_9, .ref shearerNames_10, .ref sneeds_11, .ref slikes_12, .ref shates_13, .ref snear_14])), (sslideNames_6, eJ G 6 (fun _ => 0)), (spictures_7, eI G 6 (fun _ => 0)), (sheats_8, eI G 6 (fun _ => 0)), (safter_9, eI G 6 (fun _ => 0)), (shearerNames_10, eJ G 8 (fun _ => 0)), (sneeds_11, eI G 8 (fun _ => 0)), (slikes_12, eI G 8 (fun _ => 0)), (shates_13, eI G 8 (fun _ => 0)), (snear_14, eI G 8 (fun _ => 0)), (q15, .inr (4, [.int 0, .int 0, .int 0, .int 0, .int 1, .int 0, .int 40, .int 0, .int 0, .ref sslideNames_16, .ref spictures_17, .ref sheats_18, .ref safter_19, .ref shearerNames_20, .ref sneeds_21, .ref slikes_22, .ref shates_23, .ref snear_24])), (sslideNames_16, eJ G 6 (fun _ => 0)), (spictures_17, eI G 6 (fun _ => 0)), (sheats_18, eI G 6 (fun _ => 0)), (safter_19, eI G 6 (fun _ => 0)), (shearerNames_20, eJ G 8 (fun _ => 0)), (sneeds_21, eI G 8 (fun _ => 0)), (slikes_22, eI G 8 (fun _ => 0)), (shates_23, eI G 8 (fun _ => 0)), (snear_24, eI G 8 (fun _ => 0)), (q25, .inr (7, [.int 0, .int 0, .int 0, .int 0, .int 0, .int 0, .int 0, .int 0, .ref apictures_26, .ref ashown_27, .ref asighed_28])), (apictures_26, eI G 6 (fun _ => 0)), (ashown_27, eI G 6 (fun _ => 0)), (asighed_28, eI G 8 (fun _ => 0)), (q29, .inr (7, [.int 0, .int 0, .int 0, .int 0, .int 0, .int 0, .int 0, .int 0, .ref apictures_30, .ref ashown_31, .ref asighed_32])), (apictures_30, eI G 6 (fun _ => 0)), (ashown_31, eI G 6 (fun _ => 0)), (asighed_32, eI G 8 (fun _ => 0)), (q33, .inr (2, [.ref hk_34, .int 0, .int 0])), (hk_34, eSt G 8 hf_35), (hs_36, .inr (7, [.int 0, .int 0, .int 0, .int 0, .int 0, .int 0, .int 0, .int 0, .ref hpictures_37, .ref hshown_38, .ref hsighed_39])), (hpictures_37, eI G 6 (fun _ => 0)), (hshown_38, eI G 6 (fun _ => 0)), (hsighed_39, eI G 8 (fun _ => 0)), (q41, .inr (6, [.int 0, .int 0, .int 0, .ref rkeys_42, .ref rsigns_43, .ref rnumbers_44, .ref rstack_45])), (rkeys_42, eI G 40 (fun _ => 0)), (rsigns_43, eI G 40 (fun _ => 0)), (rnumbers_44, eI G 40 (fun _ => 0)), (rstack_45, eI G 40 (fun _ => 0))]) C hw (c_X7_init q46) mwX7_init (nst3 hw.1) [43] [0, 1, 2, 3, 4, 5, 6, 7, 8, 9, 10, 11, 12, 13, 14, 15, 16, 17, 18, 19, 20, 21, 22, 23, 24, 25, 26, 27, 28, 29, 30, 31, 32, 33, 34, 35, 36, 37, 38, 39, 40, 41, 42] rfl rfl rfl rfl (by decide) rfl hl.1 rfl (Nat.le_of_ble_eq_true rfl) ⟨(Nat.le_of_ble_eq_true rfl), (Nat.le_of_ble_eq_true rfl)⟩ ⟨(Nat.le_of_ble_eq_true rfl), (Nat.le_of_ble_eq_true rfl)⟩ dX10_init_86 (fun  u9 H locs hp9 hw => ?_)
  obtain ⟨rkeys_47, rsigns_48, rnumbers_49, rstack_50, rfl⟩ := hp9
  have hw : Wd G s A [(qx, .inr (9, [.ref q1, .ref q5, .ref q15, .ref q25, .ref q29, .ref q33, .ref q41, .null, .null, .null, .null, .null, .null, .int 0, .int 0, .int 0, .int 0])), (q1, .inr (8, [.ref kc_2, .ref bys_3, .int 0, .int 0, .int 0, .int 0, .int 0, .int 0, .long 0, .int 0, .int 0, .int 0])), (kc_2, eJ G 27 fkc_4), (bys_3, eB G 940 (fun _ => 0)), (q5, .inr (4, [.int 0, .int 0, .int 0, .int 0, .int 1, .int 0, .int 40, .int 0, .int 0, .ref sslideNames_6, .ref spictures_7, .ref sheats_8, .ref safter_9, .ref shearerNames_10, .ref sneeds_11, .ref slikes_12, .ref shates_13, .ref snear_14])), (sslideNames_6, eJ G 6 (fun _ => 0)), (spictures_7, eI G 6 (fun _ => 0)), (sheats_8, eI G 6 (fun _ => 0)), (safter_9, eI G 6 (fun _ => 0)), (shearerNames_10, eJ G 8 (fun _ => 0)), (sneeds_11, eI G 8 (fun _ => 0)), (slikes_12, eI G 8 (fun _ => 0)), (shates_13, eI G 8 (fun _ => 0)), (snear_14, eI G 8 (fun _ => 0)), (q15, .inr (4, [.int 0, .int 0, .int 0, .int 0, .int 1, .int 0, .int 40, .int 0, .int 0, .ref sslideNames_16, .ref spictures_17, .ref sheats_18, .ref safter_19, .ref shearerNames_20, .ref sneeds_21, .ref slikes_22, .ref shates_23, .ref snear_24])), (sslideNames_16, eJ G 6 (fun _ => 0)), (spictures_17, eI G 6 (fun _ => 0)), (sheats_18, eI G 6 (fun _ => 0)), (safter_19, eI G 6 (fun _ => 0)), (shearerNames_20, eJ G 8 (fun _ => 0)), (sneeds_21, eI G 8 (fun _ => 0)), (slikes_22, eI G 8 (fun _ => 0)), (shates_23, eI G 8 (fun _ => 0)), (snear_24, eI G 8 (fun _ => 0)), (q25, .inr (7, [.int 0, .int 0, .int 0, .int 0, .int 0, .int 0, .int 0, .int 0, .ref apictures_26, .ref ashown_27, .ref asighed_28])), (apictures_26, eI G 6 (fun _ => 0)), (ashown_27, eI G 6 (fun _ => 0)), (asighed_28, eI G 8 (fun _ => 0)), (q29, .inr (7, [.int 0, .int 0, .int 0, .int 0, .int 0, .int 0, .int 0, .int 0, .ref apictures_30, .ref ashown_31, .ref asighed_32])), (apictures_30, eI G 6 (fun _ => 0)), (ashown_31, eI G 6 (fun _ => 0)), (asighed_32, eI G 8 (fun _ => 0)), (q33, .inr (2, [.ref hk_34, .int 0, .int 0])), (hk_34, eSt G 8 hf_35), (hs_36, .inr (7, [.int 0, .int 0, .int 0, .int 0, .int 0, .int 0, .int 0, .int 0, .ref hpictures_37, .ref hshown_38, .ref hsighed_39])), (hpictures_37, eI G 6 (fun _ => 0)), (hshown_38, eI G 6 (fun _ => 0)), (hsighed_39, eI G 8 (fun _ => 0)), (q41, .inr (6, [.int 0, .int 0, .int 0, .ref rkeys_42, .ref rsigns_43, .ref rnumbers_44, .ref rstack_45])), (rkeys_42, eI G 40 (fun _ => 0)), (rsigns_43, eI G 40 (fun _ => 0)), (rnumbers_44, eI G 40 (fun _ => 0)), (rstack_45, eI G 40 (fun _ => 0)), (q46, .inr (6, [.int 0, .int 0, .int 0, .ref rkeys_47, .ref rsigns_48, .ref rnumbers_49, .ref rstack_50])), (rkeys_47, eI G 40 (fun _ => 0)), (rsigns_48, eI G 40 (fun _ => 0)), (rnumbers_49, eI G 40 (fun _ => 0)), (rstack_50, eI G 40 (fun _ => 0))] H _ := hw
  refine W.widen (k := 75) (n := 1798) (Nat.le_of_ble_eq_true rfl) (Nat.le_of_ble_eq_true rfl) ?_
  refine x_putF (w' := [(qx, .inr (9, [.ref q1, .ref q5, .ref q15, .ref q25, .ref q29, .ref q33, .ref q41, .ref q46, .null, .null, .null, .null, .null, .int 0, .int 0, .int 0, .int 0])), (q1, .inr (8, [.ref kc_2, .ref bys_3, .int 0, .int 0, .int 0, .int 0, .int 0, .int 0, .long 0, .int 0, .int 0, .int 0])), (kc_2, eJ G 27 fkc_4), (bys_3, eB G 940 (fun _ => 0)), (q5, .inr (4, [.int 0, .int 0, .int 0, .int 0, .int 1, .int 0, .int 40, .int 0, .int 0, .ref sslideNames_6, .ref spictures_7, .ref sheats_8, .ref safter_9, .ref shearerNames_10, .ref sneeds_11, .ref slikes_12, .ref shates_13, .ref snear_14])), (sslideNames_6, eJ G 6 (fun _ => 0)), (spictures_7, eI G 6 (fun _ => 0)), (sheats_8, eI G 6 (fun _ => 0)), (safter_9, eI G 6 (fun _ => 0)), (shearerNames_10, eJ G 8 (fun _ => 0)), (sneeds_11, eI G 8 (fun _ => 0)), (slikes_12, eI G 8 (fun _ => 0)), (shates_13, eI G 8 (fun _ => 0)), (snear_14, eI G 8 (fun _ => 0)), (q15, .inr (4, [.int 0, .int 0, .int 0, .int 0, .int 1, .int 0, .int 40, .int 0, .int 0, .ref sslideNames_16, .ref spictures_17, .ref sheats_18, .ref safter_19, .ref shearerNames_20, .ref sneeds_21, .ref slikes_22, .ref shates_23, .ref snear_24])), (sslideNames_16, eJ G 6 (fun _ => 0)), (spictures_17, eI G 6 (fun _ => 0)), (sheats_18, eI G 6 (fun _ => 0)), (safter_19, eI G 6 (fun _ => 0)), (shearerNames_20, eJ G 8 (fun _ => 0)), (sneeds_21, eI G 8 (fun _ => 0)), (slikes_22, eI G 8 (fun _ => 0)), (shates_23, eI G 8 (fun _ => 0)), (snear_24, eI G 8 (fun _ => 0)), (q25, .inr (7, [.int 0, .int 0, .int 0, .int 0, .int 0, .int 0, .int 0, .int 0, .ref apictures_26, .ref ashown_27, .ref asighed_28])), (apictures_26, eI G 6 (fun _ => 0)), (ashown_27, eI G 6 (fun _ => 0)), (asighed_28, eI G 8 (fun _ => 0)), (q29, .inr (7, [.int 0, .int 0, .int 0, .int 0, .int 0, .int 0, .int 0, .int 0, .ref apictures_30, .ref ashown_31, .ref asighed_32])), (apictures_30, eI G 6 (fun _ => 0)), (ashown_31, eI G 6 (fun _ => 0)), (asighed_32, eI G 8 (fun _ => 0)), (q33, .inr (2, [.ref hk_34, .int 0, .int 0])), (hk_34, eSt G 8 hf_35), (hs_36, .inr (7, [.int 0, .int 0, .int 0, .int 0, .int 0, .int 0, .int 0, .int 0, .ref hpictures_37, .ref hshown_38, .ref hsighed_39])), (hpictures_37, eI G 6 (fun _ => 0)), (hshown_38, eI G 6 (fun _ => 0)), (hsighed_39, eI G 8 (fun _ => 0)), (q41, .inr (6, [.int 0, .int 0, .int 0, .ref rkeys_42, .ref rsigns_43, .ref rnumbers_44, .ref rstack_45])), (rkeys_42, eI G 40 (fun _ => 0)), (rsigns_43, eI G 40 (fun _ => 0)), (rnumbers_44, eI G 40 (fun _ => 0)), (rstack_45, eI G 40 (fun _ => 0)), (q46, .inr (6, [.int 0, .int 0, .int 0, .ref rkeys_47, .ref rsigns_48, .ref rnumbers_49, .ref rstack_50])), (rkeys_47, eI G 40 (fun _ => 0)), (rsigns_48, eI G 40 (fun _ => 0)), (rnumbers_49, eI G 40 (fun _ => 0)), (rstack_50, eI G 40 (fun _ => 0))]) C hw iwX10 tyX10_ok nmX10 B.2.2.2 9 rfl 0 rfl 7 (by decide) kw453 rfl rfl rfl rfl (Nat.le_of_ble_eq_true rfl) rfl dX10_init_89 (fun H locs hw => ?_)
  refine lv_aload_n C.1 C.2.1 dX10_init_92 rfl (lv_at hl 0 rfl) ?_
  refine x_new (fs := [.null, .null, .null, .null, .int 0, .int 0]) C hw iwX1 tyX1_ok 1 rfl kw344 kw345 kw11 (by decide +kernel) (Nat.le_of_ble_eq_true rfl) (Nat.le_of_ble_eq_true rfl) dX10_init_93 (fun q51 H hw => ?_)
  have hw : Wd G s A [(qx, .inr (9, [.ref q1, .ref q5, .ref q15, .ref q25, .ref q29, .ref q33, .ref q41, .ref q46, .null, .null, .null, .null, .null, .int 0, .int 0, .int 0, .int 0])), (q1, .inr (8, [.ref kc_2, .ref bys_3, .int 0, .int 0, .int 0, .int 0, .int 0, .int 0, .long 0, .int 0, .int 0, .int 0])), (kc_2, eJ G 27 fkc_4), (bys_3, eB G 940 (fun _ => 0)), (q5, .inr (4, [.int 0, .int 0, .int 0, .int 0, .int 1, .int 0, .int 40, .int 0, .int 0, .ref sslideNames_6, .ref spictures_7, .ref sheats_8, .ref safter_9, .ref shearerNames_10, .ref sneeds_11, .ref slikes_12, .ref shates_13, .ref snear_14])), (sslideNames_6, eJ G 6 (fun _ => 0)), (spictures_7, eI G 6 (fun _ => 0)), (sheats_8, eI G 6 (fun _ => 0)), (safter_9, eI G 6 (fun _ => 0)), (shearerNames_10, eJ G 8 (fun _ => 0)), (sneeds_11, eI G 8 (fun _ => 0)), (slikes_12, eI G 8 (fun _ => 0)), (shates_13, eI G 8 (fun _ => 0)), (snear_14, eI G 8 (fun _ => 0)), (q15, .inr (4, [.int 0, .int 0, .int 0, .int 0, .int 1, .int 0, .int 40, .int 0, .int 0, .ref sslideNames_16, .ref spictures_17, .ref sheats_18, .ref safter_19, .ref shearerNames_20, .ref sneeds_21, .ref slikes_22, .ref shates_23, .ref snear_24])), (sslideNames_16, eJ G 6 (fun _ => 0)), (spictures_17, eI G 6 (fun _ => 0)), (sheats_18, eI G 6 (fun _ => 0)), (safter_19, eI G 6 (fun _ => 0)), (shearerNames_20, eJ G 8 (fun _ => 0)), (sneeds_21, eI G 8 (fun _ => 0)), (slikes_22, eI G 8 (fun _ => 0)), (shates_23, eI G 8 (fun _ => 0)), (snear_24, eI G 8 (fun _ => 0)), (q25, .inr (7, [.int 0, .int 0, .int 0, .int 0, .int 0, .int 0, .int 0, .int 0, .ref apictures_26, .ref ashown_27, .ref asighed_28])), (apictures_26, eI G 6 (fun _ => 0)), (ashown_27, eI G 6 (fun _ => 0)), (asighed_28, eI G 8 (fun _ => 0)), (q29, .inr (7, [.int 0, .int 0, .int 0, .int 0, .int 0, .int 0, .int 0, .int 0, .ref apictures_30, .ref ashown_31, .ref asighed_32])), (apictures_30, eI G 6 (fun _ => 0)), (ashown_31, eI G 6 (fun _ => 0)), (asighed_32, eI G 8 (fun _ => 0)), (q33, .inr (2, [.ref hk_34, .int 0, .int 0])), (hk_34, eSt G 8 hf_35), (hs_36, .inr (7, [.int 0, .int 0, .int 0, .int 0, .int 0, .int 0, .int 0, .int 0, .ref hpictures_37, .ref hshown_38, .ref hsighed_39])), (hpictures_37, eI G 6 (fun _ => 0)), (hshown_38, eI G 6 (fun _ => 0)), (hsighed_39, eI G 8 (fun _ => 0)), (q41, .inr (6, [.int 0, .int 0, .int 0, .ref rkeys_42, .ref rsigns_43, .ref rnumbers_44, .ref rstack_45])), (rkeys_42, eI G 40 (fun _ => 0)), (rsigns_43, eI G 40 (fun _ => 0)), (rnumbers_44, eI G 40 (fun _ => 0)), (rstack_45, eI G 40 (fun _ => 0)), (q46, .inr (6, [.int 0, .int 0, .int 0, .ref rkeys_47, .ref rsigns_48, .ref rnumbers_49, .ref rstack_50])), (rkeys_47, eI G 40 (fun _ => 0)), (rsigns_48, eI G 40 (fun _ => 0)), (rnumbers_49, eI G 40 (fun _ => 0)), (rstack_50, eI G 40 (fun _ => 0)), (q51, .inr (1, [.null, .null, .null, .null, .int 0, .int 0]))] H _ := hw
  refine W.widen (k := 76) (n := 1804) (Nat.le_of_ble_eq_true rfl) (Nat.le_of_ble_eq_true rfl) ?_
  refine lv_dup C.1 C.2.1 dX10_init_96 rfl ?_
  refine x_callvIN (As := []) (rest := [.ref q51, .ref qx]) (wr := [(qx, .inr (9, [.ref q1, .ref q5, .ref q15, .ref q25, .ref q29, .ref q33, .ref q41, .ref q46, .null, .null, .null, .null, .null, .int 0, .int 0, .int 0, .int 0])), (q1, .inr (8, [.ref kc_2, .ref bys_3, .int 0, .int 0, .int 0, .int 0, .int 0, .int 0, .long 0, .int 0, .int 0, .int 0])), (kc_2, eJ G 27 fkc_4), (bys_3, eB G 940 (fun _ => 0)), (q5, .inr (4, [.int 0, .int 0, .int 0, .int 0, .int 1, .int 0, .int 40, .int 0, .int 0, .ref sslideNames_6, .ref spictures_7, .ref sheats_8, .ref safter_9, .ref shearerNames_10, .ref sneeds_11, .ref slikes_12, .ref shates_13, .ref snear_14])), (sslideNames_6, eJ G 6 (fun _ => 0)), (spictures_7, eI G 6 (fun _ => 0)), (sheats_8, eI G 6 (fun _ => 0)), (safter_9, eI G 6 (fun _ => 0)), (shearerNames_10, eJ G 8 (fun _ => 0)), (sneeds_11, eI G 8 (fun _ => 0)), (slikes_12, eI G 8 (fun _ => 0)), (shates_13, eI G 8 (fun _ => 0)), (snear_14, eI G 8 (fun _ => 0)), (q15, .inr (4, [.int 0, .int 0, .int 0, .int 0, .int 1, .int 0, .int 40, .int 0, .int 0, .ref sslideNames_16, .ref spictures_17, .ref sheats_18, .ref safter_19, .ref shearerNames_20, .ref sneeds_21, .ref slikes_22, .ref shates_23, .ref snear_24])), (sslideNames_16, eJ G 6 (fun _ => 0)), (spictures_17, eI G 6 (fun _ => 0)), (sheats_18, eI G 6 (fun _ => 0)), (safter_19, eI G 6 (fun _ => 0)), (shearerNames_20, eJ G 8 (fun _ => 0)), (sneeds_21, eI G 8 (fun _ => 0)), (slikes_22, eI G 8 (fun _ => 0)), (shates_23, eI G 8 (fun _ => 0)), (snear_24, eI G 8 (fun _ => 0)), (q25, .inr (7, [.int 0, .int 0, .int 0, .int 0, .int 0, .int 0, .int 0, .int 0, .ref apictures_26, .ref ashown_27, .ref asighed_28])), (apictures_26, eI G 6 (fun _ => 0)), (ashown_27, eI G 6 (fun _ => 0)), (asighed_28, eI G 8 (fun _ => 0)), (q29, .inr (7, [.int 0, .int 0, .int 0, .int 0, .int 0, .int 0, .int 0, .int 0, .ref apictures_30, .ref ashown_31, .ref asighed_32])), (apictures_30, eI G 6 (fun _ => 0)), (ashown_31, eI G 6 (fun _ => 0)), (asighed_32, eI G 8 (fun _ => 0)), (q33, .inr (2, [.ref hk_34, .int 0, .int 0])), (hk_34, eSt G 8 hf_35), (hs_36, .inr (7, [.int 0, .int 0, .int 0, .int 0, .int 0, .int 0, .int 0, .int 0, .ref hpictures_37, .ref hshown_38, .ref hsighed_39])), (hpictures_37, eI G 6 (fun _ => 0)), (hshown_38, eI G 6 (fun _ => 0)), (hsighed_39, eI G 8 (fun _ => 0)), (q41, .inr (6, [.int 0, .int 0, .int 0, .ref rkeys_42, .ref rsigns_43, .ref rnumbers_44, .ref rstack_45])), (rkeys_42, eI G 40 (fun _ => 0)), (rsigns_43, eI G 40 (fun _ => 0)), (rnumbers_44, eI G 40 (fun _ => 0)), (rstack_45, eI G 40 (fun _ => 0)), (q46, .inr (6, [.int 0, .int 0, .int 0, .ref rkeys_47, .ref rsigns_48, .ref rnumbers_49, .ref rstack_50])), (rkeys_47, eI G 40 (fun _ => 0)), (rsigns_48, eI G 40 (fun _ => 0)), (rnumbers_49, eI G 40 (fun _ => 0)), (rstack_50, eI G 40 (fun _ => 0))]) C hw (c_X1_init q51) mwX1_init (nst4 hw.1) [48] [0, 1, 2, 3, 4, 5, 6, 7, 8, 9, 10, 11, 12, 13, 14, 15, 16, 17, 18, 19, 20, 21, 22, 23, 24, 25, 26, 27, 28, 29, 30, 31, 32, 33, 34, 35, 36, 37, 38, 39, 40, 41, 42, 43, 44, 45, 46, 47] rfl rfl rfl rfl (by decide) rfl hl.1 rfl (Nat.le_of_ble_eq_true rfl) ⟨(Nat.le_of_ble_eq_true rfl), (Nat.le_of_ble_eq_true rfl)⟩ ⟨(Nat.le_of_ble_eq_true rfl), (Nat.le_of_ble_eq_true rfl)⟩ dX10_init_97 (fun  u9 H locs hp9 hw => ?_)
  obtain ⟨pkeys_52, pwhos_53, pfirsts_54, pseconds_55, rfl⟩ := hp9
  have hw : Wd G s A [(qx, .inr (9, [.ref q1, .ref q5, .ref q15, .ref q25, .ref q29, .ref q33, .ref q41, .ref q46, .null, .null, .null, .null, .null, .int 0, .int 0, .int 0, .int 0])), (q1, .inr (8, [.ref kc_2, .ref bys_3, .int 0, .int 0, .int 0, .int 0, .int 0, .int 0, .long 0, .int 0, .int 0, .int 0])), (kc_2, eJ G 27 fkc_4), (bys_3, eB G 940 (fun _ => 0)), (q5, .inr (4, [.int 0, .int 0, .int 0, .int 0, .int 1, .int 0, .int 40, .int 0, .int 0, .ref sslideNames_6, .ref spictures_7, .ref sheats_8, .ref safter_9, .ref shearerNames_10, .ref sneeds_11, .ref slikes_12, .ref shates_13, .ref snear_14])), (sslideNames_6, eJ G 6 (fun _ => 0)), (spictures_7, eI G 6 (fun _ => 0)), (sheats_8, eI G 6 (fun _ => 0)), (safter_9, eI G 6 (fun _ => 0)), (shearerNames_10, eJ G 8 (fun _ => 0)), (sneeds_11, eI G 8 (fun _ => 0)), (slikes_12, eI G 8 (fun _ => 0)), (shates_13, eI G 8 (fun _ => 0)), (snear_14, eI G 8 (fun _ => 0)), (q15, .inr (4, [.int 0, .int 0, .int 0, .int 0, .int 1, .int 0, .int 40, .int 0, .int 0, .ref sslideNames_16, .ref spictures_17, .ref sheats_18, .ref safter_19, .ref shearerNames_20, .ref sneeds_21, .ref slikes_22, .ref shates_23, .ref snear_24])), (sslideNames_16, eJ G 6 (fun _ => 0)), (spictures_17, eI G 6 (fun _ => 0)), (sheats_18, eI G 6 (fun _ => 0)), (safter_19, eI G 6 (fun _ => 0)), (shearerNames_20, eJ G 8 (fun _ => 0)), (sneeds_21, eI G 8 (fun _ => 0)), (slikes_22, eI G 8 (fun _ => 0)), (shates_23, eI G 8 (fun _ => 0)), (snear_24, eI G 8 (fun _ => 0)), (q25, .inr (7, [.int 0, .int 0, .int 0, .int 0, .int 0, .int 0, .int 0, .int 0, .ref apictures_26, .ref ashown_27, .ref asighed_28])), (apictures_26, eI G 6 (fun _ => 0)), (ashown_27, eI G 6 (fun _ => 0)), (asighed_28, eI G 8 (fun _ => 0)), (q29, .inr (7, [.int 0, .int 0, .int 0, .int 0, .int 0, .int 0, .int 0, .int 0, .ref apictures_30, .ref ashown_31, .ref asighed_32])), (apictures_30, eI G 6 (fun _ => 0)), (ashown_31, eI G 6 (fun _ => 0)), (asighed_32, eI G 8 (fun _ => 0)), (q33, .inr (2, [.ref hk_34, .int 0, .int 0])), (hk_34, eSt G 8 hf_35), (hs_36, .inr (7, [.int 0, .int 0, .int 0, .int 0, .int 0, .int 0, .int 0, .int 0, .ref hpictures_37, .ref hshown_38, .ref hsighed_39])), (hpictures_37, eI G 6 (fun _ => 0)), (hshown_38, eI G 6 (fun _ => 0)), (hsighed_39, eI G 8 (fun _ => 0)), (q41, .inr (6, [.int 0, .int 0, .int 0, .ref rkeys_42, .ref rsigns_43, .ref rnumbers_44, .ref rstack_45])), (rkeys_42, eI G 40 (fun _ => 0)), (rsigns_43, eI G 40 (fun _ => 0)), (rnumbers_44, eI G 40 (fun _ => 0)), (rstack_45, eI G 40 (fun _ => 0)), (q46, .inr (6, [.int 0, .int 0, .int 0, .ref rkeys_47, .ref rsigns_48, .ref rnumbers_49, .ref rstack_50])), (rkeys_47, eI G 40 (fun _ => 0)), (rsigns_48, eI G 40 (fun _ => 0)), (rnumbers_49, eI G 40 (fun _ => 0)), (rstack_50, eI G 40 (fun _ => 0)), (q51, .inr (1, [.ref pkeys_52, .ref pwhos_53, .ref pfirsts_54, .ref pseconds_55, .int 0, .int 0])), (pkeys_52, eI G 40 (fun _ => 0)), (pwhos_53, eI G 40 (fun _ => 0)), (pfirsts_54, eI G 40 (fun _ => 0)), (pseconds_55, eI G 40 (fun _ => 0))] H _ := hw
  refine W.widen (k := 80) (n := 1964) (Nat.le_of_ble_eq_true rfl) (Nat.le_of_ble_eq_true rfl) ?_
  refine x_putF (w' := [(qx, .inr (9, [.ref q1, .ref q5, .ref q15, .ref q25, .ref q29, .ref q33, .ref q41, .ref q46, .ref q51, .null, .null, .null, .null, .int 0, .int 0, .int 0, .int 0])), (q1, .inr (8, [.ref kc_2, .ref bys_3, .int 0, .int 0, .int 0, .int 0, .int 0, .int 0, .long 0, .int 0, .int 0, .int 0])), (kc_2, eJ G 27 fkc_4), (bys_3, eB G 940 (fun _ => 0)), (q5, .inr (4, [.int 0, .int 0, .int 0, .int 0, .int 1, .int 0, .int 40, .int 0, .int 0, .ref sslideNames_6, .ref spictures_7, .ref sheats_8, .ref safter_9, .ref shearerNames_10, .ref sneeds_11, .ref slikes_12, .ref shates_13, .ref snear_14])), (sslideNames_6, eJ G 6 (fun _ => 0)), (spictures_7, eI G 6 (fun _ => 0)), (sheats_8, eI G 6 (fun _ => 0)), (safter_9, eI G 6 (fun _ => 0)), (shearerNames_10, eJ G 8 (fun _ => 0)), (sneeds_11, eI G 8 (fun _ => 0)), (slikes_12, eI G 8 (fun _ => 0)), (shates_13, eI G 8 (fun _ => 0)), (snear_14, eI G 8 (fun _ => 0)), (q15, .inr (4, [.int 0, .int 0, .int 0, .int 0, .int 1, .int 0, .int 40, .int 0, .int 0, .ref sslideNames_16, .ref spictures_17, .ref sheats_18, .ref safter_19, .ref shearerNames_20, .ref sneeds_21, .ref slikes_22, .ref shates_23, .ref snear_24])), (sslideNames_16, eJ G 6 (fun _ => 0)), (spictures_17, eI G 6 (fun _ => 0)), (sheats_18, eI G 6 (fun _ => 0)), (safter_19, eI G 6 (fun _ => 0)), (shearerNames_20, eJ G 8 (fun _ => 0)), (sneeds_21, eI G 8 (fun _ => 0)), (slikes_22, eI G 8 (fun _ => 0)), (shates_23, eI G 8 (fun _ => 0)), (snear_24, eI G 8 (fun _ => 0)), (q25, .inr (7, [.int 0, .int 0, .int 0, .int 0, .int 0, .int 0, .int 0, .int 0, .ref apictures_26, .ref ashown_27, .ref asighed_28])), (apictures_26, eI G 6 (fun _ => 0)), (ashown_27, eI G 6 (fun _ => 0)), (asighed_28, eI G 8 (fun _ => 0)), (q29, .inr (7, [.int 0, .int 0, .int 0, .int 0, .int 0, .int 0, .int 0, .int 0, .ref apictures_30, .ref ashown_31, .ref asighed_32])), (apictures_30, eI G 6 (fun _ => 0)), (ashown_31, eI G 6 (fun _ => 0)), (asighed_32, eI G 8 (fun _ => 0)), (q33, .inr (2, [.ref hk_34, .int 0, .int 0])), (hk_34, eSt G 8 hf_35), (hs_36, .inr (7, [.int 0, .int 0, .int 0, .int 0, .int 0, .int 0, .int 0, .int 0, .ref hpictures_37, .ref hshown_38, .ref hsighed_39])), (hpictures_37, eI G 6 (fun _ => 0)), (hshown_38, eI G 6 (fun _ => 0)), (hsighed_39, eI G 8 (fun _ => 0)), (q41, .inr (6, [.int 0, .int 0, .int 0, .ref rkeys_42, .ref rsigns_43, .ref rnumbers_44, .ref rstack_45])), (rkeys_42, eI G 40 (fun _ => 0)), (rsigns_43, eI G 40 (fun _ => 0)), (rnumbers_44, eI G 40 (fun _ => 0)), (rstack_45, eI G 40 (fun _ => 0)), (q46, .inr (6, [.int 0, .int 0, .int 0, .ref rkeys_47, .ref rsigns_48, .ref rnumbers_49, .ref rstack_50])), (rkeys_47, eI G 40 (fun _ => 0)), (rsigns_48, eI G 40 (fun _ => 0)), (rnumbers_49, eI G 40 (fun _ => 0)), (rstack_50, eI G 40 (fun _ => 0)), (q51, .inr (1, [.ref pkeys_52, .ref pwhos_53, .ref pfirsts_54, .ref pseconds_55, .int 0, .int 0])), (pkeys_52, eI G 40 (fun _ => 0)), (pwhos_53, eI G 40 (fun _ => 0)), (pfirsts_54, eI G 40 (fun _ => 0)), (pseconds_55, eI G 40 (fun _ => 0))]) C hw iwX10 tyX10_ok nmX10 B.2.2.2 9 rfl 0 rfl 8 (by decide) kw454 rfl rfl rfl rfl (Nat.le_of_ble_eq_true rfl) rfl dX10_init_100 (fun H locs hw => ?_)
  refine lv_aload_n C.1 C.2.1 dX10_init_103 rfl (lv_at hl 0 rfl) ?_
  refine x_new (fs := [.null, .int 0, .int 0, .null, .int 0, .int 0, .int 0]) C hw iwX6 tyX6_ok 5 rfl kw371 kw372 kw12 (by decide +kernel) (Nat.le_of_ble_eq_true rfl) (Nat.le_of_ble_eq_true rfl) dX10_init_104 (fun q56 H hw => ?_)
  have hw : Wd G s A [(qx, .inr (9, [.ref q1, .ref q5, .ref q15, .ref q25, .ref q29, .ref q33, .ref q41, .ref q46, .ref q51, .null, .null, .null, .null, .int 0, .int 0, .int 0, .int 0])), (q1, .inr (8, [.ref kc_2, .ref bys_3, .int 0, .int 0, .int 0, .int 0, .int 0, .int 0, .long 0, .int 0, .int 0, .int 0])), (kc_2, eJ G 27 fkc_4), (bys_3, eB G 940 (fun _ => 0)), (q5, .inr (4, [.int 0, .int 0, .int 0, .int 0, .int 1, .int 0, .int 40, .int 0, .int 0, .ref sslideNames_6, .ref spictures_7, .ref sheats_8, .ref safter_9, .ref shearerNames_10, .ref sneeds_11, .ref slikes_12, .ref shates_13, .ref snear_14])), (sslideNames_6, eJ G 6 (fun _ => 0)), (spictures_7, eI G 6 (fun _ => 0)), (sheats_8, eI G 6 (fun _ => 0)), (safter_9, eI G 6 (fun _ => 0)), (shearerNames_10, eJ G 8 (fun _ => 0)), (sneeds_11, eI G 8 (fun _ => 0)), (slikes_12, eI G 8 (fun _ => 0)), (shates_13, eI G 8 (fun _ => 0)), (snear_14, eI G 8 (fun _ => 0)), (q15, .inr (4, [.int 0, .int 0, .int 0, .int 0, .int 1, .int 0, .int 40, .int 0, .int 0, .ref sslideNames_16, .ref spictures_17, .ref sheats_18, .ref safter_19, .ref shearerNames_20, .ref sneeds_21, .ref slikes_22, .ref shates_23, .ref snear_24])), (sslideNames_16, eJ G 6 (fun _ => 0)), (spictures_17, eI G 6 (fun _ => 0)), (sheats_18, eI G 6 (fun _ => 0)), (safter_19, eI G 6 (fun _ => 0)), (shearerNames_20, eJ G 8 (fun _ => 0)), (sneeds_21, eI G 8 (fun _ => 0)), (slikes_22, eI G 8 (fun _ => 0)), (shates_23, eI G 8 (fun _ => 0)), (snear_24, eI G 8 (fun _ => 0)), (q25, .inr (7, [.int 0, .int 0, .int 0, .int 0, .int 0, .int 0, .int 0, .int 0, .ref apictures_26, .ref ashown_27, .ref asighed_28])), (apictures_26, eI G 6 (fun _ => 0)), (ashown_27, eI G 6 (fun _ => 0)), (asighed_28, eI G 8 (fun _ => 0)), (q29, .inr (7, [.int 0, .int 0, .int 0, .int 0, .int 0, .int 0, .int 0, .int 0, .ref apictures_30, .ref ashown_31, .ref asighed_32])), (apictures_30, eI G 6 (fun _ => 0)), (ashown_31, eI G 6 (fun _ => 0)), (asighed_32, eI G 8 (fun _ => 0)), (q33, .inr (2, [.ref hk_34, .int 0, .int 0])), (hk_34, eSt G 8 hf_35), (hs_36, .inr (7, [.int 0, .int 0, .int 0, .int 0, .int 0, .int 0, .int 0, .int 0, .ref hpictures_37, .ref hshown_38, .ref hsighed_39])), (hpictures_37, eI G 6 (fun _ => 0)), (hshown_38, eI G 6 (fun _ => 0)), (hsighed_39, eI G 8 (fun _ => 0)), (q41, .inr (6, [.int 0, .int 0, .int 0, .ref rkeys_42, .ref rsigns_43, .ref rnumbers_44, .ref rstack_45])), (rkeys_42, eI G 40 (fun _ => 0)), (rsigns_43, eI G 40 (fun _ => 0)), (rnumbers_44, eI G 40 (fun _ => 0)), (rstack_45, eI G 40 (fun _ => 0)), (q46, .inr (6, [.int 0, .int 0, .int 0, .ref rkeys_47, .ref rsigns_48, .ref rnumbers_49, .ref rstack_50])), (rkeys_47, eI G 40 (fun _ => 0)), (rsigns_48, eI G 40 (fun _ => 0)), (rnumbers_49, eI G 40 (fun _ => 0)), (rstack_50, eI G 40 (fun _ => 0)), (q51, .inr (1, [.ref pkeys_52, .ref pwhos_53, .ref pfirsts_54, .ref pseconds_55, .int 0, .int 0])), (pkeys_52, eI G 40 (fun _ => 0)), (pwhos_53, eI G 40 (fun _ => 0)), (pfirsts_54, eI G 40 (fun _ => 0)), (pseconds_55, eI G 40 (fun _ => 0)), (q56, .inr (5, [.null, .int 0, .int 0, .null, .int 0, .int 0, .int 0]))] H _ := hw
  refine W.widen (k := 81) (n := 1971) (Nat.le_of_ble_eq_true rfl) (Nat.le_of_ble_eq_true rfl) ?_
  refine lv_dup C.1 C.2.1 dX10_init_107 rfl ?_
  refine x_callvIN (As := []) (rest := [.ref q56, .ref qx]) (wr := [(qx, .inr (9, [.ref q1, .ref q5, .ref q15, .ref q25, .ref q29, .ref q33, .ref q41, .ref q46, .ref q51, .null, .null, .null, .null, .int 0, .int 0, .int 0, .int 0])), (q1, .inr (8, [.ref kc_2, .ref bys_3, .int 0, .int 0, .int 0, .int 0, .int 0, .int 0, .long 0, .int 0, .int 0, .int 0])), (kc_2, eJ G 27 fkc_4), (bys_3, eB G 940 (fun _ => 0)), (q5, .inr (4, [.int 0, .int 0, .int 0, .int 0, .int 1, .int 0, .int 40, .int 0, .int 0, .ref sslideNames_6, .ref spictures_7, .ref sheats_8, .ref safter_9, .ref shearerNames_10, .ref sneeds_11, .ref slikes_12, .ref shates_13, .ref snear_14])), (sslideNames_6, eJ G 6 (fun _ => 0)), (spictures_7, eI G 6 (fun _ => 0)), (sheats_8, eI G 6 (fun _ => 0)), (safter_9, eI G 6 (fun _ => 0)), (shearerNames_10, eJ G 8 (fun _ => 0)), (sneeds_11, eI G 8 (fun _ => 0)), (slikes_12, eI G 8 (fun _ => 0)), (shates_13, eI G 8 (fun _ => 0)), (snear_14, eI G 8 (fun _ => 0)), (q15, .inr (4, [.int 0, .int 0, .int 0, .int 0, .int 1, .int 0, .int 40, .int 0, .int 0, .ref sslideNames_16, .ref spictures_17, .ref sheats_18, .ref safter_19, .ref shearerNames_20, .ref sneeds_21, .ref slikes_22, .ref shates_23, .ref snear_24])), (sslideNames_16, eJ G 6 (fun _ => 0)), (spictures_17, eI G 6 (fun _ => 0)), (sheats_18, eI G 6 (fun _ => 0)), (safter_19, eI G 6 (fun _ => 0)), (shearerNames_20, eJ G 8 (fun _ => 0)), (sneeds_21, eI G 8 (fun _ => 0)), (slikes_22, eI G 8 (fun _ => 0)), (shates_23, eI G 8 (fun _ => 0)), (snear_24, eI G 8 (fun _ => 0)), (q25, .inr (7, [.int 0, .int 0, .int 0, .int 0, .int 0, .int 0, .int 0, .int 0, .ref apictures_26, .ref ashown_27, .ref asighed_28])), (apictures_26, eI G 6 (fun _ => 0)), (ashown_27, eI G 6 (fun _ => 0)), (asighed_28, eI G 8 (fun _ => 0)), (q29, .inr (7, [.int 0, .int 0, .int 0, .int 0, .int 0, .int 0, .int 0, .int 0, .ref apictures_30, .ref ashown_31, .ref asighed_32])), (apictures_30, eI G 6 (fun _ => 0)), (ashown_31, eI G 6 (fun _ => 0)), (asighed_32, eI G 8 (fun _ => 0)), (q33, .inr (2, [.ref hk_34, .int 0, .int 0])), (hk_34, eSt G 8 hf_35), (hs_36, .inr (7, [.int 0, .int 0, .int 0, .int 0, .int 0, .int 0, .int 0, .int 0, .ref hpictures_37, .ref hshown_38, .ref hsighed_39])), (hpictures_37, eI G 6 (fun _ => 0)), (hshown_38, eI G 6 (fun _ => 0)), (hsighed_39, eI G 8 (fun _ => 0)), (q41, .inr (6, [.int 0, .int 0, .int 0, .ref rkeys_42, .ref rsigns_43, .ref rnumbers_44, .ref rstack_45])), (rkeys_42, eI G 40 (fun _ => 0)), (rsigns_43, eI G 40 (fun _ => 0)), (rnumbers_44, eI G 40 (fun _ => 0)), (rstack_45, eI G 40 (fun _ => 0)), (q46, .inr (6, [.int 0, .int 0, .int 0, .ref rkeys_47, .ref rsigns_48, .ref rnumbers_49, .ref rstack_50])), (rkeys_47, eI G 40 (fun _ => 0)), (rsigns_48, eI G 40 (fun _ => 0)), (rnumbers_49, eI G 40 (fun _ => 0)), (rstack_50, eI G 40 (fun _ => 0)), (q51, .inr (1, [.ref pkeys_52, .ref pwhos_53, .ref pfirsts_54, .ref pseconds_55, .int 0, .int 0])), (pkeys_52, eI G 40 (fun _ => 0)), (pwhos_53, eI G 40 (fun _ => 0)), (pfirsts_54, eI G 40 (fun _ => 0)), (pseconds_55, eI G 40 (fun _ => 0))]) C hw (c_X6_init q56) mwX6_init (nst5 hw.1) [53] [0, 1, 2, 3, 4, 5, 6, 7, 8, 9, 10, 11, 12, 13, 14, 15, 16, 17, 18, 19, 20, 21, 22, 23, 24, 25, 26, 27, 28, 29, 30, 31, 32, 33, 34, 35, 36, 37, 38, 39, 40, 41, 42, 43, 44, 45, 46, 47, 48, 49, 50, 51, 52] rfl rfl rfl rfl (by decide) rfl hl.1 rfl (Nat.le_of_ble_eq_true rfl) ⟨(Nat.le_of_ble_eq_true rfl), (Nat.le_of_ble_eq_true rfl)⟩ ⟨(Nat.le_of_ble_eq_true rfl), (Nat.le_of_ble_eq_true rfl)⟩ dX10_init_108 (fun  u9 H locs hp9 hw => ?_)
  obtain ⟨fbestPath_57, fpath_58, rfl⟩ := hp9
  have hw : Wd G s A [(qx, .inr (9, [.ref q1, .ref q5, .ref q15, .ref q25, .ref q29, .ref q33, .ref q41, .ref q46, .ref q51, .null, .null, .null, .null, .int 0, .int 0, .int 0, .int 0])), (q1, .inr (8, [.ref kc_2, .ref bys_3, .int 0, .int 0, .int 0, .int 0, .int 0, .int 0, .long 0, .int 0, .int 0, .int 0])), (kc_2, eJ G 27 fkc_4), (bys_3, eB G 940 (fun _ => 0)), (q5, .inr (4, [.int 0, .int 0, .int 0, .int 0, .int 1, .int 0, .int 40, .int 0, .int 0, .ref sslideNames_6, .ref spictures_7, .ref sheats_8, .ref safter_9, .ref shearerNames_10, .ref sneeds_11, .ref slikes_12, .ref shates_13, .ref snear_14])), (sslideNames_6, eJ G 6 (fun _ => 0)), (spictures_7, eI G 6 (fun _ => 0)), (sheats_8, eI G 6 (fun _ => 0)), (safter_9, eI G 6 (fun _ => 0)), (shearerNames_10, eJ G 8 (fun _ => 0)), (sneeds_11, eI G 8 (fun _ => 0)), (slikes_12, eI G 8 (fun _ => 0)), (shates_13, eI G 8 (fun _ => 0)), (snear_14, eI G 8 (fun _ => 0)), (q15, .inr (4, [.int 0, .int 0, .int 0, .int 0, .int 1, .int 0, .int 40, .int 0, .int 0, .ref sslideNames_16, .ref spictures_17, .ref sheats_18, .ref safter_19, .ref shearerNames_20, .ref sneeds_21, .ref slikes_22, .ref shates_23, .ref snear_24])), (sslideNames_16, eJ G 6 (fun _ => 0)), (spictures_17, eI G 6 (fun _ => 0)), (sheats_18, eI G 6 (fun _ => 0)), (safter_19, eI G 6 (fun _ => 0)), (shearerNames_20, eJ G 8 (fun _ => 0)), (sneeds_21, eI G 8 (fun _ => 0)), (slikes_22, eI G 8 (fun _ => 0)), (shates_23, eI G 8 (fun _ => 0)), (snear_24, eI G 8 (fun _ => 0)), (q25, .inr (7, [.int 0, .int 0, .int 0, .int 0, .int 0, .int 0, .int 0, .int 0, .ref apictures_26, .ref ashown_27, .ref asighed_28])), (apictures_26, eI G 6 (fun _ => 0)), (ashown_27, eI G 6 (fun _ => 0)), (asighed_28, eI G 8 (fun _ => 0)), (q29, .inr (7, [.int 0, .int 0, .int 0, .int 0, .int 0, .int 0, .int 0, .int 0, .ref apictures_30, .ref ashown_31, .ref asighed_32])), (apictures_30, eI G 6 (fun _ => 0)), (ashown_31, eI G 6 (fun _ => 0)), (asighed_32, eI G 8 (fun _ => 0)), (q33, .inr (2, [.ref hk_34, .int 0, .int 0])), (hk_34, eSt G 8 hf_35), (hs_36, .inr (7, [.int 0, .int 0, .int 0, .int 0, .int 0, .int 0, .int 0, .int 0, .ref hpictures_37, .ref hshown_38, .ref hsighed_39])), (hpictures_37, eI G 6 (fun _ => 0)), (hshown_38, eI G 6 (fun _ => 0)), (hsighed_39, eI G 8 (fun _ => 0)), (q41, .inr (6, [.int 0, .int 0, .int 0, .ref rkeys_42, .ref rsigns_43, .ref rnumbers_44, .ref rstack_45])), (rkeys_42, eI G 40 (fun _ => 0)), (rsigns_43, eI G 40 (fun _ => 0)), (rnumbers_44, eI G 40 (fun _ => 0)), (rstack_45, eI G 40 (fun _ => 0)), (q46, .inr (6, [.int 0, .int 0, .int 0, .ref rkeys_47, .ref rsigns_48, .ref rnumbers_49, .ref rstack_50])), (rkeys_47, eI G 40 (fun _ => 0)), (rsigns_48, eI G 40 (fun _ => 0)), (rnumbers_49, eI G 40 (fun _ => 0)), (rstack_50, eI G 40 (fun _ => 0)), (q51, .inr (1, [.ref pkeys_52, .ref pwhos_53, .ref pfirsts_54, .ref pseconds_55, .int 0, .int 0])), (pkeys_52, eI G 40 (fun _ => 0)), (pwhos_53, eI G 40 (fun _ => 0)), (pfirsts_54, eI G 40 (fun _ => 0)), (pseconds_55, eI G 40 (fun _ => 0)), (q56, .inr (5, [.ref fbestPath_57, .int 0, .int 0, .ref fpath_58, .int 0, .int 0, .int 0])), (fbestPath_57, eI G 6 (fun _ => 0)), (fpath_58, eI G 6 (fun _ => 0))] H _ := hw
  refine W.widen (k := 83) (n := 1983) (Nat.le_of_ble_eq_true rfl) (Nat.le_of_ble_eq_true rfl) ?_
  refine x_putF (w' := [(qx, .inr (9, [.ref q1, .ref q5, .ref q15, .ref q25, .ref q29, .ref q33, .ref q41, .ref q46, .ref q51, .ref q56, .null, .null, .null, .int 0, .int 0, .int 0, .int 0])), (q1, .inr (8, [.ref kc_2, .ref bys_3, .int 0, .int 0, .int 0, .int 0, .int 0, .int 0, .long 0, .int 0, .int 0, .int 0])), (kc_2, eJ G 27 fkc_4), (bys_3, eB G 940 (fun _ => 0)), (q5, .inr (4, [.int 0, .int 0, .int 0, .int 0, .int 1, .int 0, .int 40, .int 0, .int 0, .ref sslideNames_6, .ref spictures_7, .ref sheats_8, .ref safter_9, .ref shearerNames_10, .ref sneeds_11, .ref slikes_12, .ref shates_13, .ref snear_14])), (sslideNames_6, eJ G 6 (fun _ => 0)), (spictures_7, eI G 6 (fun _ => 0)), (sheats_8, eI G 6 (fun _ => 0)), (safter_9, eI G 6 (fun _ => 0)), (shearerNames_10, eJ G 8 (fun _ => 0)), (sneeds_11, eI G 8 (fun _ => 0)), (slikes_12, eI G 8 (fun _ => 0)), (shates_13, eI G 8 (fun _ => 0)), (snear_14, eI G 8 (fun _ => 0)), (q15, .inr (4, [.int 0, .int 0, .int 0, .int 0, .int 1, .int 0, .int 40, .int 0, .int 0, .ref sslideNames_16, .ref spictures_17, .ref sheats_18, .ref safter_19, .ref shearerNames_20, .ref sneeds_21, .ref slikes_22, .ref shates_23, .ref snear_24])), (sslideNames_16, eJ G 6 (fun _ => 0)), (spictures_17, eI G 6 (fun _ => 0)), (sheats_18, eI G 6 (fun _ => 0)), (safter_19, eI G 6 (fun _ => 0)), (shearerNames_20, eJ G 8 (fun _ => 0)), (sneeds_21, eI G 8 (fun _ => 0)), (slikes_22, eI G 8 (fun _ => 0)), (shates_23, eI G 8 (fun _ => 0)), (snear_24, eI G 8 (fun _ => 0)), (q25, .inr (7, [.int 0, .int 0, .int 0, .int 0, .int 0, .int 0, .int 0, .int 0, .ref apictures_26, .ref ashown_27, .ref asighed_28])), (apictures_26, eI G 6 (fun _ => 0)), (ashown_27, eI G 6 (fun _ => 0)), (asighed_28, eI G 8 (fun _ => 0)), (q29, .inr (7, [.int 0, .int 0, .int 0, .int 0, .int 0, .int 0, .int 0, .int 0, .ref apictures_30, .ref ashown_31, .ref asighed_32])), (apictures_30, eI G 6 (fun _ => 0)), (ashown_31, eI G 6 (fun _ => 0)), (asighed_32, eI G 8 (fun _ => 0)), (q33, .inr (2, [.ref hk_34, .int 0, .int 0])), (hk_34, eSt G 8 hf_35), (hs_36, .inr (7, [.int 0, .int 0, .int 0, .int 0, .int 0, .int 0, .int 0, .int 0, .ref hpictures_37, .ref hshown_38, .ref hsighed_39])), (hpictures_37, eI G 6 (fun _ => 0)), (hshown_38, eI G 6 (fun _ => 0)), (hsighed_39, eI G 8 (fun _ => 0)), (q41, .inr (6, [.int 0, .int 0, .int 0, .ref rkeys_42, .ref rsigns_43, .ref rnumbers_44, .ref rstack_45])), (rkeys_42, eI G 40 (fun _ => 0)), (rsigns_43, eI G 40 (fun _ => 0)), (rnumbers_44, eI G 40 (fun _ => 0)), (rstack_45, eI G 40 (fun _ => 0)), (q46, .inr (6, [.int 0, .int 0, .int 0, .ref rkeys_47, .ref rsigns_48, .ref rnumbers_49, .ref rstack_50])), (rkeys_47, eI G 40 (fun _ => 0)), (rsigns_48, eI G 40 (fun _ => 0)), (rnumbers_49, eI G 40 (fun _ => 0)), (rstack_50, eI G 40 (fun _ => 0)), (q51, .inr (1, [.ref pkeys_52, .ref pwhos_53, .ref pfirsts_54, .ref pseconds_55, .int 0, .int 0])), (pkeys_52, eI G 40 (fun _ => 0)), (pwhos_53, eI G 40 (fun _ => 0)), (pfirsts_54, eI G 40 (fun _ => 0)), (pseconds_55, eI G 40 (fun _ => 0)), (q56, .inr (5, [.ref fbestPath_57, .int 0, .int 0, .ref fpath_58, .int 0, .int 0, .int 0])), (fbestPath_57, eI G 6 (fun _ => 0)), (fpath_58, eI G 6 (fun _ => 0))]) C hw iwX10 tyX10_ok nmX10 B.2.2.2 9 rfl 0 rfl 9 (by decide) kw455 rfl rfl rfl rfl (Nat.le_of_ble_eq_true rfl) rfl dX10_init_111 (fun H locs hw => ?_)
  refine lv_aload_n C.1 C.2.1 dX10_init_114 rfl (lv_at hl 0 rfl) ?_
  refine x_new (fs := [.null, .int 0]) C hw iwX0 tyX0_ok 0 rfl kw401 kw402 kw13 (by decide +kernel) (Nat.le_of_ble_eq_true rfl) (Nat.le_of_ble_eq_true rfl) dX10_init_115 (fun q59 H hw => ?_)
  have hw : Wd G s A [(qx, .inr (9, [.ref q1, .ref q5, .ref q15, .ref q25, .ref q29, .ref q33, .ref q41, .ref q46, .ref q51, .ref q56, .null, .null, .null, .int 0, .int 0, .int 0, .int 0])), (q1, .inr (8, [.ref kc_2, .ref bys_3, .int 0, .int 0, .int 0, .int 0, .int 0, .int 0, .long 0, .int 0, .int 0, .int 0])), (kc_2, eJ G 27 fkc_4), (bys_3, eB G 940 (fun _ => 0)), (q5, .inr (4, [.int 0, .int 0, .int 0, .int 0, .int 1, .int 0, .int 40, .int 0, .int 0, .ref sslideNames_6, .ref spictures_7, .ref sheats_8, .ref safter_9, .ref shearerNames_10, .ref sneeds_11, .ref slikes_12, .ref shates_13, .ref snear_14])), (sslideNames_6, eJ G 6 (fun _ => 0)), (spictures_7, eI G 6 (fun _ => 0)), (sheats_8, eI G 6 (fun _ => 0)), (safter_9, eI G 6 (fun _ => 0)), (shearerNames_10, eJ G 8 (fun _ => 0)), (sneeds_11, eI G 8 (fun _ => 0)), (slikes_12, eI G 8 (fun _ => 0)), (shates_13, eI G 8 (fun _ => 0)), (snear_14, eI G 8 (fun _ => 0)), (q15, .inr (4, [.int 0, .int 0, .int 0, .int 0, .int 1, .int 0, .int 40, .int 0, .int 0, .ref sslideNames_16, .ref spictures_17, .ref sheats_18, .ref safter_19, .ref shearerNames_20, .ref sneeds_21, .ref slikes_22, .ref shates_23, .ref snear_24])), (sslideNames_16, eJ G 6 (fun _ => 0)), (spictures_17, eI G 6 (fun _ => 0)), (sheats_18, eI G 6 (fun _ => 0)), (safter_19, eI G 6 (fun _ => 0)), (shearerNames_20, eJ G 8 (fun _ => 0)), (sneeds_21, eI G 8 (fun _ => 0)), (slikes_22, eI G 8 (fun _ => 0)), (shates_23, eI G 8 (fun _ => 0)), (snear_24, eI G 8 (fun _ => 0)), (q25, .inr (7, [.int 0, .int 0, .int 0, .int 0, .int 0, .int 0, .int 0, .int 0, .ref apictures_26, .ref ashown_27, .ref asighed_28])), (apictures_26, eI G 6 (fun _ => 0)), (ashown_27, eI G 6 (fun _ => 0)), (asighed_28, eI G 8 (fun _ => 0)), (q29, .inr (7, [.int 0, .int 0, .int 0, .int 0, .int 0, .int 0, .int 0, .int 0, .ref apictures_30, .ref ashown_31, .ref asighed_32])), (apictures_30, eI G 6 (fun _ => 0)), (ashown_31, eI G 6 (fun _ => 0)), (asighed_32, eI G 8 (fun _ => 0)), (q33, .inr (2, [.ref hk_34, .int 0, .int 0])), (hk_34, eSt G 8 hf_35), (hs_36, .inr (7, [.int 0, .int 0, .int 0, .int 0, .int 0, .int 0, .int 0, .int 0, .ref hpictures_37, .ref hshown_38, .ref hsighed_39])), (hpictures_37, eI G 6 (fun _ => 0)), (hshown_38, eI G 6 (fun _ => 0)), (hsighed_39, eI G 8 (fun _ => 0)), (q41, .inr (6, [.int 0, .int 0, .int 0, .ref rkeys_42, .ref rsigns_43, .ref rnumbers_44, .ref rstack_45])), (rkeys_42, eI G 40 (fun _ => 0)), (rsigns_43, eI G 40 (fun _ => 0)), (rnumbers_44, eI G 40 (fun _ => 0)), (rstack_45, eI G 40 (fun _ => 0)), (q46, .inr (6, [.int 0, .int 0, .int 0, .ref rkeys_47, .ref rsigns_48, .ref rnumbers_49, .ref rstack_50])), (rkeys_47, eI G 40 (fun _ => 0)), (rsigns_48, eI G 40 (fun _ => 0)), (rnumbers_49, eI G 40 (fun _ => 0)), (rstack_50, eI G 40 (fun _ => 0)), (q51, .inr (1, [.ref pkeys_52, .ref pwhos_53, .ref pfirsts_54, .ref pseconds_55, .int 0, .int 0])), (pkeys_52, eI G 40 (fun _ => 0)), (pwhos_53, eI G 40 (fun _ => 0)), (pfirsts_54, eI G 40 (fun _ => 0)), (pseconds_55, eI G 40 (fun _ => 0)), (q56, .inr (5, [.ref fbestPath_57, .int 0, .int 0, .ref fpath_58, .int 0, .int 0, .int 0])), (fbestPath_57, eI G 6 (fun _ => 0)), (fpath_58, eI G 6 (fun _ => 0)), (q59, .inr (0, [.null, .int 0]))] H _ := hw
  refine W.widen (k := 84) (n := 1985) (Nat.le_of_ble_eq_true rfl) (Nat.le_of_ble_eq_true rfl) ?_
  refine lv_dup C.1 C.2.1 dX10_init_118 rfl ?_
  refine x_callvIN (As := []) (rest := [.ref q59, .ref qx]) (wr := [(qx, .inr (9, [.ref q1, .ref q5, .ref q15, .ref q25, .ref q29, .ref q33, .ref q41, .ref q46, .ref q51, .ref q56, .null, .null, .null, .int 0, .int 0, .int 0, .int 0])), (q1, .inr (8, [.ref kc_2, .ref bys_3, .int 0, .int 0, .int 0, .int 0, .int 0, .int 0, .long 0, .int 0, .int 0, .int 0])), (kc_2, eJ G 27 fkc_4), (bys_3, eB G 940 (fun _ => 0)), (q5, .inr (4, [.int 0, .int 0, .int 0, .int 0, .int 1, .int 0, .int 40, .int 0, .int 0, .ref sslideNames_6, .ref spictures_7, .ref sheats_8, .ref safter_9, .ref shearerNames_10, .ref sneeds_11, .ref slikes_12, .ref shates_13, .ref snear_14])), (sslideNames_6, eJ G 6 (fun _ => 0)), (spictures_7, eI G 6 (fun _ => 0)), (sheats_8, eI G 6 (fun _ => 0)), (safter_9, eI G 6 (fun _ => 0)), (shearerNames_10, eJ G 8 (fun _ => 0)), (sneeds_11, eI G 8 (fun _ => 0)), (slikes_12, eI G 8 (fun _ => 0)), (shates_13, eI G 8 (fun _ => 0)), (snear_14, eI G 8 (fun _ => 0)), (q15, .inr (4, [.int 0, .int 0, .int 0, .int 0, .int 1, .int 0, .int 40, .int 0, .int 0, .ref sslideNames_16, .ref spictures_17, .ref sheats_18, .ref safter_19, .ref shearerNames_20, .ref sneeds_21, .ref slikes_22, .ref shates_23, .ref snear_24])), (sslideNames_16, eJ G 6 (fun _ => 0)), (spictures_17, eI G 6 (fun _ => 0)), (sheats_18, eI G 6 (fun _ => 0)), (safter_19, eI G 6 (fun _ => 0)), (shearerNames_20, eJ G 8 (fun _ => 0)), (sneeds_21, eI G 8 (fun _ => 0)), (slikes_22, eI G 8 (fun _ => 0)), (shates_23, eI G 8 (fun _ => 0)), (snear_24, eI G 8 (fun _ => 0)), (q25, .inr (7, [.int 0, .int 0, .int 0, .int 0, .int 0, .int 0, .int 0, .int 0, .ref apictures_26, .ref ashown_27, .ref asighed_28])), (apictures_26, eI G 6 (fun _ => 0)), (ashown_27, eI G 6 (fun _ => 0)), (asighed_28, eI G 8 (fun _ => 0)), (q29, .inr (7, [.int 0, .int 0, .int 0, .int 0, .int 0, .int 0, .int 0, .int 0, .ref apictures_30, .ref ashown_31, .ref asighed_32])), (apictures_30, eI G 6 (fun _ => 0)), (ashown_31, eI G 6 (fun _ => 0)), (asighed_32, eI G 8 (fun _ => 0)), (q33, .inr (2, [.ref hk_34, .int 0, .int 0])), (hk_34, eSt G 8 hf_35), (hs_36, .inr (7, [.int 0, .int 0, .int 0, .int 0, .int 0, .int 0, .int 0, .int 0, .ref hpictures_37, .ref hshown_38, .ref hsighed_39])), (hpictures_37, eI G 6 (fun _ => 0)), (hshown_38, eI G 6 (fun _ => 0)), (hsighed_39, eI G 8 (fun _ => 0)), (q41, .inr (6, [.int 0, .int 0, .int 0, .ref rkeys_42, .ref rsigns_43, .ref rnumbers_44, .ref rstack_45])), (rkeys_42, eI G 40 (fun _ => 0)), (rsigns_43, eI G 40 (fun _ => 0)), (rnumbers_44, eI G 40 (fun _ => 0)), (rstack_45, eI G 40 (fun _ => 0)), (q46, .inr (6, [.int 0, .int 0, .int 0, .ref rkeys_47, .ref rsigns_48, .ref rnumbers_49, .ref rstack_50])), (rkeys_47, eI G 40 (fun _ => 0)), (rsigns_48, eI G 40 (fun _ => 0)), (rnumbers_49, eI G 40 (fun _ => 0)), (rstack_50, eI G 40 (fun _ => 0)), (q51, .inr (1, [.ref pkeys_52, .ref pwhos_53, .ref pfirsts_54, .ref pseconds_55, .int 0, .int 0])), (pkeys_52, eI G 40 (fun _ => 0)), (pwhos_53, eI G 40 (fun _ => 0)), (pfirsts_54, eI G 40 (fun _ => 0)), (pseconds_55, eI G 40 (fun _ => 0)), (q56, .inr (5, [.ref fbestPath_57, .int 0, .int 0, .ref fpath_58, .int 0, .int 0, .int 0])), (fbestPath_57, eI G 6 (fun _ => 0)), (fpath_58, eI G 6 (fun _ => 0))]) C hw (c_X0_init q59) mwX0_init (nst6 hw.1) [56] [0, 1, 2, 3, 4, 5, 6, 7, 8, 9, 10, 11, 12, 13, 14, 15, 16, 17, 18, 19, 20, 21, 22, 23, 24, 25, 26, 27, 28, 29, 30, 31, 32, 33, 34, 35, 36, 37, 38, 39, 40, 41, 42, 43, 44, 45, 46, 47, 48, 49, 50, 51, 52, 53, 54, 55] rfl rfl rfl rfl (by decide) rfl hl.1 rfl (Nat.le_of_ble_eq_true rfl) ⟨(Nat.le_of_ble_eq_true rfl), (Nat.le_of_ble_eq_true rfl)⟩ ⟨(Nat.le_of_ble_eq_true rfl), (Nat.le_of_ble_eq_true rfl)⟩ dX10_init_119 (fun  u9 H locs hp9 hw => ?_)
  obtain ⟨nletters_60, rfl⟩ := hp9
  have hw : Wd G s A [(qx, .inr (9, [.ref q1, .ref q5, .ref q15, .ref q25, .ref q29, .ref q33, .ref q41, .ref q46, .ref q51, .ref q56, .null, .null, .null, .int 0, .int 0, .int 0, .int 0])), (q1, .inr (8, [.ref kc_2, .ref bys_3, .int 0, .int 0, .int 0, .int 0, .int 0, .int 0, .long 0, .int 0, .int 0, .int 0])), (kc_2, eJ G 27 fkc_4), (bys_3, eB G 940 (fun _ => 0)), (q5, .inr (4, [.int 0, .int 0, .int 0, .int 0, .int 1, .int 0, .int 40, .int 0, .int 0, .ref sslideNames_6, .ref spictures_7, .ref sheats_8, .ref safter_9, .ref shearerNames_10, .ref sneeds_11, .ref slikes_12, .ref shates_13, .ref snear_14])), (sslideNames_6, eJ G 6 (fun _ => 0)), (spictures_7, eI G 6 (fun _ => 0)), (sheats_8, eI G 6 (fun _ => 0)), (safter_9, eI G 6 (fun _ => 0)), (shearerNames_10, eJ G 8 (fun _ => 0)), (sneeds_11, eI G 8 (fun _ => 0)), (slikes_12, eI G 8 (fun _ => 0)), (shates_13, eI G 8 (fun _ => 0)), (snear_14, eI G 8 (fun _ => 0)), (q15, .inr (4, [.int 0, .int 0, .int 0, .int 0, .int 1, .int 0, .int 40, .int 0, .int 0, .ref sslideNames_16, .ref spictures_17, .ref sheats_18, .ref safter_19, .ref shearerNames_20, .ref sneeds_21, .ref slikes_22, .ref shates_23, .ref snear_24])), (sslideNames_16, eJ G 6 (fun _ => 0)), (spictures_17, eI G 6 (fun _ => 0)), (sheats_18, eI G 6 (fun _ => 0)), (safter_19, eI G 6 (fun _ => 0)), (shearerNames_20, eJ G 8 (fun _ => 0)), (sneeds_21, eI G 8 (fun _ => 0)), (slikes_22, eI G 8 (fun _ => 0)), (shates_23, eI G 8 (fun _ => 0)), (snear_24, eI G 8 (fun _ => 0)), (q25, .inr (7, [.int 0, .int 0, .int 0, .int 0, .int 0, .int 0, .int 0, .int 0, .ref apictures_26, .ref ashown_27, .ref asighed_28])), (apictures_26, eI G 6 (fun _ => 0)), (ashown_27, eI G 6 (fun _ => 0)), (asighed_28, eI G 8 (fun _ => 0)), (q29, .inr (7, [.int 0, .int 0, .int 0, .int 0, .int 0, .int 0, .int 0, .int 0, .ref apictures_30, .ref ashown_31, .ref asighed_32])), (apictures_30, eI G 6 (fun _ => 0)), (ashown_31, eI G 6 (fun _ => 0)), (asighed_32, eI G 8 (fun _ => 0)), (q33, .inr (2, [.ref hk_34, .int 0, .int 0])), (hk_34, eSt G 8 hf_35), (hs_36, .inr (7, [.int 0, .int 0, .int 0, .int 0, .int 0, .int 0, .int 0, .int 0, .ref hpictures_37, .ref hshown_38, .ref hsighed_39])), (hpictures_37, eI G 6 (fun _ => 0)), (hshown_38, eI G 6 (fun _ => 0)), (hsighed_39, eI G 8 (fun _ => 0)), (q41, .inr (6, [.int 0, .int 0, .int 0, .ref rkeys_42, .ref rsigns_43, .ref rnumbers_44, .ref rstack_45])), (rkeys_42, eI G 40 (fun _ => 0)), (rsigns_43, eI G 40 (fun _ => 0)), (rnumbers_44, eI G 40 (fun _ => 0)), (rstack_45, eI G 40 (fun _ => 0)), (q46, .inr (6, [.int 0, .int 0, .int 0, .ref rkeys_47, .ref rsigns_48, .ref rnumbers_49, .ref rstack_50])), (rkeys_47, eI G 40 (fun _ => 0)), (rsigns_48, eI G 40 (fun _ => 0)), (rnumbers_49, eI G 40 (fun _ => 0)), (rstack_50, eI G 40 (fun _ => 0)), (q51, .inr (1, [.ref pkeys_52, .ref pwhos_53, .ref pfirsts_54, .ref pseconds_55, .int 0, .int 0])), (pkeys_52, eI G 40 (fun _ => 0)), (pwhos_53, eI G 40 (fun _ => 0)), (pfirsts_54, eI G 40 (fun _ => 0)), (pseconds_55, eI G 40 (fun _ => 0)), (q56, .inr (5, [.ref fbestPath_57, .int 0, .int 0, .ref fpath_58, .int 0, .int 0, .int 0])), (fbestPath_57, eI G 6 (fun _ => 0)), (fpath_58, eI G 6 (fun _ => 0)), (q59, .inr (0, [.ref nletters_60, .int 0])), (nletters_60, eC G 40 (fun _ => 0))] H _ := hw
  refine W.widen (k := 85) (n := 2025) (Nat.le_of_ble_eq_true rfl) (Nat.le_of_ble_eq_true rfl) ?_
  refine x_putF (w' := [(qx, .inr (9, [.ref q1, .ref q5, .ref q15, .ref q25, .ref q29, .ref q33, .ref q41, .ref q46, .ref q51, .ref q56, .ref q59, .null, .null, .int 0, .int 0, .int 0, .int 0])), (q1, .inr (8, [.ref kc_2, .ref bys_3, .int 0, .int 0, .int 0, .int 0, .int 0, .int 0, .long 0, .int 0, .int 0, .int 0])), (kc_2, eJ G 27 fkc_4), (bys_3, eB G 940 (fun _ => 0)), (q5, .inr (4, [.int 0, .int 0, .int 0, .int 0, .int 1, .int 0, .int 40, .int 0, .int 0, .ref sslideNames_6, .ref spictures_7, .ref sheats_8, .ref safter_9, .ref shearerNames_10, .ref sneeds_11, .ref slikes_12, .ref shates_13, .ref snear_14])), (sslideNames_6, eJ G 6 (fun _ => 0)), (spictures_7, eI G 6 (fun _ => 0)), (sheats_8, eI G 6 (fun _ => 0)), (safter_9, eI G 6 (fun _ => 0)), (shearerNames_10, eJ G 8 (fun _ => 0)), (sneeds_11, eI G 8 (fun _ => 0)), (slikes_12, eI G 8 (fun _ => 0)), (shates_13, eI G 8 (fun _ => 0)), (snear_14, eI G 8 (fun _ => 0)), (q15, .inr (4, [.int 0, .int 0, .int 0, .int 0, .int 1, .int 0, .int 40, .int 0, .int 0, .ref sslideNames_16, .ref spictures_17, .ref sheats_18, .ref safter_19, .ref shearerNames_20, .ref sneeds_21, .ref slikes_22, .ref shates_23, .ref snear_24])), (sslideNames_16, eJ G 6 (fun _ => 0)), (spictures_17, eI G 6 (fun _ => 0)), (sheats_18, eI G 6 (fun _ => 0)), (safter_19, eI G 6 (fun _ => 0)), (shearerNames_20, eJ G 8 (fun _ => 0)), (sneeds_21, eI G 8 (fun _ => 0)), (slikes_22, eI G 8 (fun _ => 0)), (shates_23, eI G 8 (fun _ => 0)), (snear_24, eI G 8 (fun _ => 0)), (q25, .inr (7, [.int 0, .int 0, .int 0, .int 0, .int 0, .int 0, .int 0, .int 0, .ref apictures_26, .ref ashown_27, .ref asighed_28])), (apictures_26, eI G 6 (fun _ => 0)), (ashown_27, eI G 6 (fun _ => 0)), (asighed_28, eI G 8 (fun _ => 0)), (q29, .inr (7, [.int 0, .int 0, .int 0, .int 0, .int 0, .int 0, .int 0, .int 0, .ref apictures_30, .ref ashown_31, .ref asighed_32])), (apictures_30, eI G 6 (fun _ => 0)), (ashown_31, eI G 6 (fun _ => 0)), (asighed_32, eI G 8 (fun _ => 0)), (q33, .inr (2, [.ref hk_34, .int 0, .int 0])), (hk_34, eSt G 8 hf_35), (hs_36, .inr (7, [.int 0, .int 0, .int 0, .int 0, .int 0, .int 0, .int 0, .int 0, .ref hpictures_37, .ref hshown_38, .ref hsighed_39])), (hpictures_37, eI G 6 (fun _ => 0)), (hshown_38, eI G 6 (fun _ => 0)), (hsighed_39, eI G 8 (fun _ => 0)), (q41, .inr (6, [.int 0, .int 0, .int 0, .ref rkeys_42, .ref rsigns_43, .ref rnumbers_44, .ref rstack_45])), (rkeys_42, eI G 40 (fun _ => 0)), (rsigns_43, eI G 40 (fun _ => 0)), (rnumbers_44, eI G 40 (fun _ => 0)), (rstack_45, eI G 40 (fun _ => 0)), (q46, .inr (6, [.int 0, .int 0, .int 0, .ref rkeys_47, .ref rsigns_48, .ref rnumbers_49, .ref rstack_50])), (rkeys_47, eI G 40 (fun _ => 0)), (rsigns_48, eI G 40 (fun _ => 0)), (rnumbers_49, eI G 40 (fun _ => 0)), (rstack_50, eI G 40 (fun _ => 0)), (q51, .inr (1, [.ref pkeys_52, .ref pwhos_53, .ref pfirsts_54, .ref pseconds_55, .int 0, .int 0])), (pkeys_52, eI G 40 (fun _ => 0)), (pwhos_53, eI G 40 (fun _ => 0)), (pfirsts_54, eI G 40 (fun _ => 0)), (pseconds_55, eI G 40 (fun _ => 0)), (q56, .inr (5, [.ref fbestPath_57, .int 0, .int 0, .ref fpath_58, .int 0, .int 0, .int 0])), (fbestPath_57, eI G 6 (fun _ => 0)), (fpath_58, eI G 6 (fun _ => 0)), (q59, .inr (0, [.ref nletters_60, .int 0])), (nletters_60, eC G 40 (fun _ => 0))]) C hw iwX10 tyX10_ok nmX10 B.2.2.2 9 rfl 0 rfl 10 (by decide) kw456 rfl rfl rfl rfl (Nat.le_of_ble_eq_true rfl) rfl dX10_init_122 (fun H locs hw => ?_)
  refine lv_aload_n C.1 C.2.1 dX10_init_125 rfl (lv_at hl 0 rfl) ?_
  refine lv_iconst (v := 2) C.1 C.2.1 dX10_init_126 (by decide) ?_
  refine x_newq (N := 2) C hw 5 rfl kw417 hw.1.2.2.1 (by decide) (by decide) (Nat.le_of_ble_eq_true rfl) (Nat.le_of_ble_eq_true rfl) (Nat.le_of_ble_eq_true rfl) dX10_init_127 (fun q61 H hw => ?_)
  have hw : Wd G s A [(qx, .inr (9, [.ref q1, .ref q5, .ref q15, .ref q25, .ref q29, .ref q33, .ref q41, .ref q46, .ref q51, .ref q56, .ref q59, .null, .null, .int 0, .int 0, .int 0, .int 0])), (q1, .inr (8, [.ref kc_2, .ref bys_3, .int 0, .int 0, .int 0, .int 0, .int 0, .int 0, .long 0, .int 0, .int 0, .int 0])), (kc_2, eJ G 27 fkc_4), (bys_3, eB G 940 (fun _ => 0)), (q5, .inr (4, [.int 0, .int 0, .int 0, .int 0, .int 1, .int 0, .int 40, .int 0, .int 0, .ref sslideNames_6, .ref spictures_7, .ref sheats_8, .ref safter_9, .ref shearerNames_10, .ref sneeds_11, .ref slikes_12, .ref shates_13, .ref snear_14])), (sslideNames_6, eJ G 6 (fun _ => 0)), (spictures_7, eI G 6 (fun _ => 0)), (sheats_8, eI G 6 (fun _ => 0)), (safter_9, eI G 6 (fun _ => 0)), (shearerNames_10, eJ G 8 (fun _ => 0)), (sneeds_11, eI G 8 (fun _ => 0)), (slikes_12, eI G 8 (fun _ => 0)), (shates_13, eI G 8 (fun _ => 0)), (snear_14, eI G 8 (fun _ => 0)), (q15, .inr (4, [.int 0, .int 0, .int 0, .int 0, .int 1, .int 0, .int 40, .int 0, .int 0, .ref sslideNames_16, .ref spictures_17, .ref sheats_18, .ref safter_19, .ref shearerNames_20, .ref sneeds_21, .ref slikes_22, .ref shates_23, .ref snear_24])), (sslideNames_16, eJ G 6 (fun _ => 0)), (spictures_17, eI G 6 (fun _ => 0)), (sheats_18, eI G 6 (fun _ => 0)), (safter_19, eI G 6 (fun _ => 0)), (shearerNames_20, eJ G 8 (fun _ => 0)), (sneeds_21, eI G 8 (fun _ => 0)), (slikes_22, eI G 8 (fun _ => 0)), (shates_23, eI G 8 (fun _ => 0)), (snear_24, eI G 8 (fun _ => 0)), (q25, .inr (7, [.int 0, .int 0, .int 0, .int 0, .int 0, .int 0, .int 0, .int 0, .ref apictures_26, .ref ashown_27, .ref asighed_28])), (apictures_26, eI G 6 (fun _ => 0)), (ashown_27, eI G 6 (fun _ => 0)), (asighed_28, eI G 8 (fun _ => 0)), (q29, .inr (7, [.int 0, .int 0, .int 0, .int 0, .int 0, .int 0, .int 0, .int 0, .ref apictures_30, .ref ashown_31, .ref asighed_32])), (apictures_30, eI G 6 (fun _ => 0)), (ashown_31, eI G 6 (fun _ => 0)), (asighed_32, eI G 8 (fun _ => 0)), (q33, .inr (2, [.ref hk_34, .int 0, .int 0])), (hk_34, eSt G 8 hf_35), (hs_36, .inr (7, [.int 0, .int 0, .int 0, .int 0, .int 0, .int 0, .int 0, .int 0, .ref hpictures_37, .ref hshown_38, .ref hsighed_39])), (hpictures_37, eI G 6 (fun _ => 0)), (hshown_38, eI G 6 (fun _ => 0)), (hsighed_39, eI G 8 (fun _ => 0)), (q41, .inr (6, [.int 0, .int 0, .int 0, .ref rkeys_42, .ref rsigns_43, .ref rnumbers_44, .ref rstack_45])), (rkeys_42, eI G 40 (fun _ => 0)), (rsigns_43, eI G 40 (fun _ => 0)), (rnumbers_44, eI G 40 (fun _ => 0)), (rstack_45, eI G 40 (fun _ => 0)), (q46, .inr (6, [.int 0, .int 0, .int 0, .ref rkeys_47, .ref rsigns_48, .ref rnumbers_49, .ref rstack_50])), (rkeys_47, eI G 40 (fun _ => 0)), (rsigns_48, eI G 40 (fun _ => 0)), (rnumbers_49, eI G 40 (fun _ => 0)), (rstack_50, eI G 40 (fun _ => 0)), (q51, .inr (1, [.ref pkeys_52, .ref pwhos_53, .ref pfirsts_54, .ref pseconds_55, .int 0, .int 0])), (pkeys_52, eI G 40 (fun _ => 0)), (pwhos_53, eI G 40 (fun _ => 0)), (pfirsts_54, eI G 40 (fun _ => 0)), (pseconds_55, eI G 40 (fun _ => 0)), (q56, .inr (5, [.ref fbestPath_57, .int 0, .int 0, .ref fpath_58, .int 0, .int 0, .int 0])), (fbestPath_57, eI G 6 (fun _ => 0)), (fpath_58, eI G 6 (fun _ => 0)), (q59, .inr (0, [.ref nletters_60, .int 0])), (nletters_60, eC G 40 (fun _ => 0)), (q61, eIm G 2 (fun _ => none))] H _ := hw
  refine W.widen (k := 86) (n := 2027) (Nat.le_of_ble_eq_true rfl) (Nat.le_of_ble_eq_true rfl) ?_
  refine x_putF (w' := [(qx, .inr (9, [.ref q1, .ref q5, .ref q15, .ref q25, .ref q29, .ref q33, .ref q41, .ref q46, .ref q51, .ref q56, .ref q59, .ref q61, .null, .int 0, .int 0, .int 0, .int 0])), (q1, .inr (8, [.ref kc_2, .ref bys_3, .int 0, .int 0, .int 0, .int 0, .int 0, .int 0, .long 0, .int 0, .int 0, .int 0])), (kc_2, eJ G 27 fkc_4), (bys_3, eB G 940 (fun _ => 0)), (q5, .inr (4, [.int 0, .int 0, .int 0, .int 0, .int 1, .int 0, .int 40, .int 0, .int 0, .ref sslideNames_6, .ref spictures_7, .ref sheats_8, .ref safter_9, .ref shearerNames_10, .ref sneeds_11, .ref slikes_12, .ref shates_13, .ref snear_14])), (sslideNames_6, eJ G 6 (fun _ => 0)), (spictures_7, eI G 6 (fun _ => 0)), (sheats_8, eI G 6 (fun _ => 0)), (safter_9, eI G 6 (fun _ => 0)), (shearerNames_10, eJ G 8 (fun _ => 0)), (sneeds_11, eI G 8 (fun _ => 0)), (slikes_12, eI G 8 (fun _ => 0)), (shates_13, eI G 8 (fun _ => 0)), (snear_14, eI G 8 (fun _ => 0)), (q15, .inr (4, [.int 0, .int 0, .int 0, .int 0, .int 1, .int 0, .int 40, .int 0, .int 0, .ref sslideNames_16, .ref spictures_17, .ref sheats_18, .ref safter_19, .ref shearerNames_20, .ref sneeds_21, .ref slikes_22, .ref shates_23, .ref snear_24])), (sslideNames_16, eJ G 6 (fun _ => 0)), (spictures_17, eI G 6 (fun _ => 0)), (sheats_18, eI G 6 (fun _ => 0)), (safter_19, eI G 6 (fun _ => 0)), (shearerNames_20, eJ G 8 (fun _ => 0)), (sneeds_21, eI G 8 (fun _ => 0)), (slikes_22, eI G 8 (fun _ => 0)), (shates_23, eI G 8 (fun _ => 0)), (snear_24, eI G 8 (fun _ => 0)), (q25, .inr (7, [.int 0, .int 0, .int 0, .int 0, .int 0, .int 0, .int 0, .int 0, .ref apictures_26, .ref ashown_27, .ref asighed_28])), (apictures_26, eI G 6 (fun _ => 0)), (ashown_27, eI G 6 (fun _ => 0)), (asighed_28, eI G 8 (fun _ => 0)), (q29, .inr (7, [.int 0, .int 0, .int 0, .int 0, .int 0, .int 0, .int 0, .int 0, .ref apictures_30, .ref ashown_31, .ref asighed_32])), (apictures_30, eI G 6 (fun _ => 0)), (ashown_31, eI G 6 (fun _ => 0)), (asighed_32, eI G 8 (fun _ => 0)), (q33, .inr (2, [.ref hk_34, .int 0, .int 0])), (hk_34, eSt G 8 hf_35), (hs_36, .inr (7, [.int 0, .int 0, .int 0, .int 0, .int 0, .int 0, .int 0, .int 0, .ref hpictures_37, .ref hshown_38, .ref hsighed_39])), (hpictures_37, eI G 6 (fun _ => 0)), (hshown_38, eI G 6 (fun _ => 0)), (hsighed_39, eI G 8 (fun _ => 0)), (q41, .inr (6, [.int 0, .int 0, .int 0, .ref rkeys_42, .ref rsigns_43, .ref rnumbers_44, .ref rstack_45])), (rkeys_42, eI G 40 (fun _ => 0)), (rsigns_43, eI G 40 (fun _ => 0)), (rnumbers_44, eI G 40 (fun _ => 0)), (rstack_45, eI G 40 (fun _ => 0)), (q46, .inr (6, [.int 0, .int 0, .int 0, .ref rkeys_47, .ref rsigns_48, .ref rnumbers_49, .ref rstack_50])), (rkeys_47, eI G 40 (fun _ => 0)), (rsigns_48, eI G 40 (fun _ => 0)), (rnumbers_49, eI G 40 (fun _ => 0)), (rstack_50, eI G 40 (fun _ => 0)), (q51, .inr (1, [.ref pkeys_52, .ref pwhos_53, .ref pfirsts_54, .ref pseconds_55, .int 0, .int 0])), (pkeys_52, eI G 40 (fun _ => 0)), (pwhos_53, eI G 40 (fun _ => 0)), (pfirsts_54, eI G 40 (fun _ => 0)), (pseconds_55, eI G 40 (fun _ => 0)), (q56, .inr (5, [.ref fbestPath_57, .int 0, .int 0, .ref fpath_58, .int 0, .int 0, .int 0])), (fbestPath_57, eI G 6 (fun _ => 0)), (fpath_58, eI G 6 (fun _ => 0)), (q59, .inr (0, [.ref nletters_60, .int 0])), (nletters_60, eC G 40 (fun _ => 0)), (q61, eIm G 2 (fun _ => none))]) C hw iwX10 tyX10_ok nmX10 B.2.2.2 9 rfl 0 rfl 11 (by decide) kw457 rfl rfl rfl rfl (Nat.le_of_ble_eq_true rfl) rfl dX10_init_130 (fun H locs hw => ?_)
  refine lv_aload_n C.1 C.2.1 dX10_init_133 rfl (lv_at hl 0 rfl) ?_
  refine lv_iconst (v := 4) C.1 C.2.1 dX10_init_134 (by decide) ?_
  refine x_newa (a0 := (4, .inl (fun _ => 0))) (N := 4) C hw (atype := .int) rfl 2 rfl kw230 (fun _ => rfl) (by decide) (by decide) (Nat.le_of_ble_eq_true rfl) (Nat.le_of_ble_eq_true rfl) (Nat.le_of_ble_eq_true rfl) dX10_init_135 (fun q62 H hw => ?_)
  have hw : Wd G s A [(qx, .inr (9, [.ref q1, .ref q5, .ref q15, .ref q25, .ref q29, .ref q33, .ref q41, .ref q46, .ref q51, .ref q56, .ref q59, .ref q61, .null, .int 0, .int 0, .int 0, .int 0])), (q1, .inr (8, [.ref kc_2, .ref bys_3, .int 0, .int 0, .int 0, .int 0, .int 0, .int 0, .long 0, .int 0, .int 0, .int 0])), (kc_2, eJ G 27 fkc_4), (bys_3, eB G 940 (fun _ => 0)), (q5, .inr (4, [.int 0, .int 0, .int 0, .int 0, .int 1, .int 0, .int 40, .int 0, .int 0, .ref sslideNames_6, .ref spictures_7, .ref sheats_8, .ref safter_9, .ref shearerNames_10, .ref sneeds_11, .ref slikes_12, .ref shates_13, .ref snear_14])), (sslideNames_6, eJ G 6 (fun _ => 0)), (spictures_7, eI G 6 (fun _ => 0)), (sheats_8, eI G 6 (fun _ => 0)), (safter_9, eI G 6 (fun _ => 0)), (shearerNames_10, eJ G 8 (fun _ => 0)), (sneeds_11, eI G 8 (fun _ => 0)), (slikes_12, eI G 8 (fun _ => 0)), (shates_13, eI G 8 (fun _ => 0)), (snear_14, eI G 8 (fun _ => 0)), (q15, .inr (4, [.int 0, .int 0, .int 0, .int 0, .int 1, .int 0, .int 40, .int 0, .int 0, .ref sslideNames_16, .ref spictures_17, .ref sheats_18, .ref safter_19, .ref shearerNames_20, .ref sneeds_21, .ref slikes_22, .ref shates_23, .ref snear_24])), (sslideNames_16, eJ G 6 (fun _ => 0)), (spictures_17, eI G 6 (fun _ => 0)), (sheats_18, eI G 6 (fun _ => 0)), (safter_19, eI G 6 (fun _ => 0)), (shearerNames_20, eJ G 8 (fun _ => 0)), (sneeds_21, eI G 8 (fun _ => 0)), (slikes_22, eI G 8 (fun _ => 0)), (shates_23, eI G 8 (fun _ => 0)), (snear_24, eI G 8 (fun _ => 0)), (q25, .inr (7, [.int 0, .int 0, .int 0, .int 0, .int 0, .int 0, .int 0, .int 0, .ref apictures_26, .ref ashown_27, .ref asighed_28])), (apictures_26, eI G 6 (fun _ => 0)), (ashown_27, eI G 6 (fun _ => 0)), (asighed_28, eI G 8 (fun _ => 0)), (q29, .inr (7, [.int 0, .int 0, .int 0, .int 0, .int 0, .int 0, .int 0, .int 0, .ref apictures_30, .ref ashown_31, .ref asighed_32])), (apictures_30, eI G 6 (fun _ => 0)), (ashown_31, eI G 6 (fun _ => 0)), (asighed_32, eI G 8 (fun _ => 0)), (q33, .inr (2, [.ref hk_34, .int 0, .int 0])), (hk_34, eSt G 8 hf_35), (hs_36, .inr (7, [.int 0, .int 0, .int 0, .int 0, .int 0, .int 0, .int 0, .int 0, .ref hpictures_37, .ref hshown_38, .ref hsighed_39])), (hpictures_37, eI G 6 (fun _ => 0)), (hshown_38, eI G 6 (fun _ => 0)), (hsighed_39, eI G 8 (fun _ => 0)), (q41, .inr (6, [.int 0, .int 0, .int 0, .ref rkeys_42, .ref rsigns_43, .ref rnumbers_44, .ref rstack_45])), (rkeys_42, eI G 40 (fun _ => 0)), (rsigns_43, eI G 40 (fun _ => 0)), (rnumbers_44, eI G 40 (fun _ => 0)), (rstack_45, eI G 40 (fun _ => 0)), (q46, .inr (6, [.int 0, .int 0, .int 0, .ref rkeys_47, .ref rsigns_48, .ref rnumbers_49, .ref rstack_50])), (rkeys_47, eI G 40 (fun _ => 0)), (rsigns_48, eI G 40 (fun _ => 0)), (rnumbers_49, eI G 40 (fun _ => 0)), (rstack_50, eI G 40 (fun _ => 0)), (q51, .inr (1, [.ref pkeys_52, .ref pwhos_53, .ref pfirsts_54, .ref pseconds_55, .int 0, .int 0])), (pkeys_52, eI G 40 (fun _ => 0)), (pwhos_53, eI G 40 (fun _ => 0)), (pfirsts_54, eI G 40 (fun _ => 0)), (pseconds_55, eI G 40 (fun _ => 0)), (q56, .inr (5, [.ref fbestPath_57, .int 0, .int 0, .ref fpath_58, .int 0, .int 0, .int 0])), (fbestPath_57, eI G 6 (fun _ => 0)), (fpath_58, eI G 6 (fun _ => 0)), (q59, .inr (0, [.ref nletters_60, .int 0])), (nletters_60, eC G 40 (fun _ => 0)), (q61, eIm G 2 (fun _ => none)), (q62, eI G 4 (fun _ => 0))] H _ := hw
  refine W.widen (k := 87) (n := 2031) (Nat.le_of_ble_eq_true rfl) (Nat.le_of_ble_eq_true rfl) ?_
  refine x_putF (w' := [(qx, .inr (9, [.ref q1, .ref q5, .ref q15, .ref q25, .ref q29, .ref q33, .ref q41, .ref q46, .ref q51, .ref q56, .ref q59, .ref q61, .ref q62, .int 0, .int 0, .int 0, .int 0])), (q1, .inr (8, [.ref kc_2, .ref bys_3, .int 0, .int 0, .int 0, .int 0, .int 0, .int 0, .long 0, .int 0, .int 0, .int 0])), (kc_2, eJ G 27 fkc_4), (bys_3, eB G 940 (fun _ => 0)), (q5, .inr (4, [.int 0, .int 0, .int 0, .int 0, .int 1, .int 0, .int 40, .int 0, .int 0, .ref sslideNames_6, .ref spictures_7, .ref sheats_8, .ref safter_9, .ref shearerNames_10, .ref sneeds_11, .ref slikes_12, .ref shates_13, .ref snear_14])), (sslideNames_6, eJ G 6 (fun _ => 0)), (spictures_7, eI G 6 (fun _ => 0)), (sheats_8, eI G 6 (fun _ => 0)), (safter_9, eI G 6 (fun _ => 0)), (shearerNames_10, eJ G 8 (fun _ => 0)), (sneeds_11, eI G 8 (fun _ => 0)), (slikes_12, eI G 8 (fun _ => 0)), (shates_13, eI G 8 (fun _ => 0)), (snear_14, eI G 8 (fun _ => 0)), (q15, .inr (4, [.int 0, .int 0, .int 0, .int 0, .int 1, .int 0, .int 40, .int 0, .int 0, .ref sslideNames_16, .ref spictures_17, .ref sheats_18, .ref safter_19, .ref shearerNames_20, .ref sneeds_21, .ref slikes_22, .ref shates_23, .ref snear_24])), (sslideNames_16, eJ G 6 (fun _ => 0)), (spictures_17, eI G 6 (fun _ => 0)), (sheats_18, eI G 6 (fun _ => 0)), (safter_19, eI G 6 (fun _ => 0)), (shearerNames_20, eJ G 8 (fun _ => 0)), (sneeds_21, eI G 8 (fun _ => 0)), (slikes_22, eI G 8 (fun _ => 0)), (shates_23, eI G 8 (fun _ => 0)), (snear_24, eI G 8 (fun _ => 0)), (q25, .inr (7, [.int 0, .int 0, .int 0, .int 0, .int 0, .int 0, .int 0, .int 0, .ref apictures_26, .ref ashown_27, .ref asighed_28])), (apictures_26, eI G 6 (fun _ => 0)), (ashown_27, eI G 6 (fun _ => 0)), (asighed_28, eI G 8 (fun _ => 0)), (q29, .inr (7, [.int 0, .int 0, .int 0, .int 0, .int 0, .int 0, .int 0, .int 0, .ref apictures_30, .ref ashown_31, .ref asighed_32])), (apictures_30, eI G 6 (fun _ => 0)), (ashown_31, eI G 6 (fun _ => 0)), (asighed_32, eI G 8 (fun _ => 0)), (q33, .inr (2, [.ref hk_34, .int 0, .int 0])), (hk_34, eSt G 8 hf_35), (hs_36, .inr (7, [.int 0, .int 0, .int 0, .int 0, .int 0, .int 0, .int 0, .int 0, .ref hpictures_37, .ref hshown_38, .ref hsighed_39])), (hpictures_37, eI G 6 (fun _ => 0)), (hshown_38, eI G 6 (fun _ => 0)), (hsighed_39, eI G 8 (fun _ => 0)), (q41, .inr (6, [.int 0, .int 0, .int 0, .ref rkeys_42, .ref rsigns_43, .ref rnumbers_44, .ref rstack_45])), (rkeys_42, eI G 40 (fun _ => 0)), (rsigns_43, eI G 40 (fun _ => 0)), (rnumbers_44, eI G 40 (fun _ => 0)), (rstack_45, eI G 40 (fun _ => 0)), (q46, .inr (6, [.int 0, .int 0, .int 0, .ref rkeys_47, .ref rsigns_48, .ref rnumbers_49, .ref rstack_50])), (rkeys_47, eI G 40 (fun _ => 0)), (rsigns_48, eI G 40 (fun _ => 0)), (rnumbers_49, eI G 40 (fun _ => 0)), (rstack_50, eI G 40 (fun _ => 0)), (q51, .inr (1, [.ref pkeys_52, .ref pwhos_53, .ref pfirsts_54, .ref pseconds_55, .int 0, .int 0])), (pkeys_52, eI G 40 (fun _ => 0)), (pwhos_53, eI G 40 (fun _ => 0)), (pfirsts_54, eI G 40 (fun _ => 0)), (pseconds_55, eI G 40 (fun _ => 0)), (q56, .inr (5, [.ref fbestPath_57, .int 0, .int 0, .ref fpath_58, .int 0, .int 0, .int 0])), (fbestPath_57, eI G 6 (fun _ => 0)), (fpath_58, eI G 6 (fun _ => 0)), (q59, .inr (0, [.ref nletters_60, .int 0])), (nletters_60, eC G 40 (fun _ => 0)), (q61, eIm G 2 (fun _ => none)), (q62, eI G 4 (fun _ => 0))]) C hw iwX10 tyX10_ok nmX10 B.2.2.2 9 rfl 0 rfl 12 (by decide) kw458 rfl rfl rfl rfl (Nat.le_of_ble_eq_true rfl) rfl dX10_init_137 (fun H locs hw => ?_)
  refine lv_aload_n C.1 C.2.1 dX10_init_140 rfl (lv_at hl 0 rfl) ?_
  refine lv_iconst (v := (-1)) C.1 C.2.1 dX10_init_141 (by decide) ?_
  refine x_put (w' := [(qx, .inr (9, [.ref q1, .ref q5, .ref q15, .ref q25, .ref q29, .ref q33, .ref q41, .ref q46, .ref q51, .ref q56, .ref q59, .ref q61, .ref q62, .int 0, .int 0, .int (-1), .int 0])), (q1, .inr (8, [.ref kc_2, .ref bys_3, .int 0, .int 0, .int 0, .int 0, .int 0, .int 0, .long 0, .int 0, .int 0, .int 0])), (kc_2, eJ G 27 fkc_4), (bys_3, eB G 940 (fun _ => 0)), (q5, .inr (4, [.int 0, .int 0, .int 0, .int 0, .int 1, .int 0, .int 40, .int 0, .int 0, .ref sslideNames_6, .ref spictures_7, .ref sheats_8, .ref safter_9, .ref shearerNames_10, .ref sneeds_11, .ref slikes_12, .ref shates_13, .ref snear_14])), (sslideNames_6, eJ G 6 (fun _ => 0)), (spictures_7, eI G 6 (fun _ => 0)), (sheats_8, eI G 6 (fun _ => 0)), (safter_9, eI G 6 (fun _ => 0)), (shearerNames_10, eJ G 8 (fun _ => 0)), (sneeds_11, eI G 8 (fun _ => 0)), (slikes_12, eI G 8 (fun _ => 0)), (shates_13, eI G 8 (fun _ => 0)), (snear_14, eI G 8 (fun _ => 0)), (q15, .inr (4, [.int 0, .int 0, .int 0, .int 0, .int 1, .int 0, .int 40, .int 0, .int 0, .ref sslideNames_16, .ref spictures_17, .ref sheats_18, .ref safter_19, .ref shearerNames_20, .ref sneeds_21, .ref slikes_22, .ref shates_23, .ref snear_24])), (sslideNames_16, eJ G 6 (fun _ => 0)), (spictures_17, eI G 6 (fun _ => 0)), (sheats_18, eI G 6 (fun _ => 0)), (safter_19, eI G 6 (fun _ => 0)), (shearerNames_20, eJ G 8 (fun _ => 0)), (sneeds_21, eI G 8 (fun _ => 0)), (slikes_22, eI G 8 (fun _ => 0)), (shates_23, eI G 8 (fun _ => 0)), (snear_24, eI G 8 (fun _ => 0)), (q25, .inr (7, [.int 0, .int 0, .int 0, .int 0, .int 0, .int 0, .int 0, .int 0, .ref apictures_26, .ref ashown_27, .ref asighed_28])), (apictures_26, eI G 6 (fun _ => 0)), (ashown_27, eI G 6 (fun _ => 0)), (asighed_28, eI G 8 (fun _ => 0)), (q29, .inr (7, [.int 0, .int 0, .int 0, .int 0, .int 0, .int 0, .int 0, .int 0, .ref apictures_30, .ref ashown_31, .ref asighed_32])), (apictures_30, eI G 6 (fun _ => 0)), (ashown_31, eI G 6 (fun _ => 0)), (asighed_32, eI G 8 (fun _ => 0)), (q33, .inr (2, [.ref hk_34, .int 0, .int 0])), (hk_34, eSt G 8 hf_35), (hs_36, .inr (7, [.int 0, .int 0, .int 0, .int 0, .int 0, .int 0, .int 0, .int 0, .ref hpictures_37, .ref hshown_38, .ref hsighed_39])), (hpictures_37, eI G 6 (fun _ => 0)), (hshown_38, eI G 6 (fun _ => 0)), (hsighed_39, eI G 8 (fun _ => 0)), (q41, .inr (6, [.int 0, .int 0, .int 0, .ref rkeys_42, .ref rsigns_43, .ref rnumbers_44, .ref rstack_45])), (rkeys_42, eI G 40 (fun _ => 0)), (rsigns_43, eI G 40 (fun _ => 0)), (rnumbers_44, eI G 40 (fun _ => 0)), (rstack_45, eI G 40 (fun _ => 0)), (q46, .inr (6, [.int 0, .int 0, .int 0, .ref rkeys_47, .ref rsigns_48, .ref rnumbers_49, .ref rstack_50])), (rkeys_47, eI G 40 (fun _ => 0)), (rsigns_48, eI G 40 (fun _ => 0)), (rnumbers_49, eI G 40 (fun _ => 0)), (rstack_50, eI G 40 (fun _ => 0)), (q51, .inr (1, [.ref pkeys_52, .ref pwhos_53, .ref pfirsts_54, .ref pseconds_55, .int 0, .int 0])), (pkeys_52, eI G 40 (fun _ => 0)), (pwhos_53, eI G 40 (fun _ => 0)), (pfirsts_54, eI G 40 (fun _ => 0)), (pseconds_55, eI G 40 (fun _ => 0)), (q56, .inr (5, [.ref fbestPath_57, .int 0, .int 0, .ref fpath_58, .int 0, .int 0, .int 0])), (fbestPath_57, eI G 6 (fun _ => 0)), (fpath_58, eI G 6 (fun _ => 0)), (q59, .inr (0, [.ref nletters_60, .int 0])), (nletters_60, eC G 40 (fun _ => 0)), (q61, eIm G 2 (fun _ => none)), (q62, eI G 4 (fun _ => 0))]) C hw iwX10 tyX10_ok nmX10 9 rfl 0 rfl 15 (by decide) kw461 rfl rfl rfl (Nat.le_of_ble_eq_true rfl) rfl dX10_init_142 (fun H locs hw => ?_)
  refine lv_aload_n C.1 C.2.1 dX10_init_145 rfl (lv_at hl 0 rfl) ?_
  refine lv_iconst (v := (-1)) C.1 C.2.1 dX10_init_146 (by decide) ?_
  refine x_put (w' := [(qx, .inr (9, [.ref q1, .ref q5, .ref q15, .ref q25, .ref q29, .ref q33, .ref q41, .ref q46, .ref q51, .ref q56, .ref q59, .ref q61, .ref q62, .int 0, .int 0, .int (-1), .int (-1)])), (q1, .inr (8, [.ref kc_2, .ref bys_3, .int 0, .int 0, .int 0, .int 0, .int 0, .int 0, .long 0, .int 0, .int 0, .int 0])), (kc_2, eJ G 27 fkc_4), (bys_3, eB G 940 (fun _ => 0)), (q5, .inr (4, [.int 0, .int 0, .int 0, .int 0, .int 1, .int 0, .int 40, .int 0, .int 0, .ref sslideNames_6, .ref spictures_7, .ref sheats_8, .ref safter_9, .ref shearerNames_10, .ref sneeds_11, .ref slikes_12, .ref shates_13, .ref snear_14])), (sslideNames_6, eJ G 6 (fun _ => 0)), (spictures_7, eI G 6 (fun _ => 0)), (sheats_8, eI G 6 (fun _ => 0)), (safter_9, eI G 6 (fun _ => 0)), (shearerNames_10, eJ G 8 (fun _ => 0)), (sneeds_11, eI G 8 (fun _ => 0)), (slikes_12, eI G 8 (fun _ => 0)), (shates_13, eI G 8 (fun _ => 0)), (snear_14, eI G 8 (fun _ => 0)), (q15, .inr (4, [.int 0, .int 0, .int 0, .int 0, .int 1, .int 0, .int 40, .int 0, .int 0, .ref sslideNames_16, .ref spictures_17, .ref sheats_18, .ref safter_19, .ref shearerNames_20, .ref sneeds_21, .ref slikes_22, .ref shates_23, .ref snear_24])), (sslideNames_16, eJ G 6 (fun _ => 0)), (spictures_17, eI G 6 (fun _ => 0)), (sheats_18, eI G 6 (fun _ => 0)), (safter_19, eI G 6 (fun _ => 0)), (shearerNames_20, eJ G 8 (fun _ => 0)), (sneeds_21, eI G 8 (fun _ => 0)), (slikes_22, eI G 8 (fun _ => 0)), (shates_23, eI G 8 (fun _ => 0)), (snear_24, eI G 8 (fun _ => 0)), (q25, .inr (7, [.int 0, .int 0, .int 0, .int 0, .int 0, .int 0, .int 0, .int 0, .ref apictures_26, .ref ashown_27, .ref asighed_28])), (apictures_26, eI G 6 (fun _ => 0)), (ashown_27, eI G 6 (fun _ => 0)), (asighed_28, eI G 8 (fun _ => 0)), (q29, .inr (7, [.int 0, .int 0, .int 0, .int 0, .int 0, .int 0, .int 0, .int 0, .ref apictures_30, .ref ashown_31, .ref asighed_32])), (apictures_30, eI G 6 (fun _ => 0)), (ashown_31, eI G 6 (fun _ => 0)), (asighed_32, eI G 8 (fun _ => 0)), (q33, .inr (2, [.ref hk_34, .int 0, .int 0])), (hk_34, eSt G 8 hf_35), (hs_36, .inr (7, [.int 0, .int 0, .int 0, .int 0, .int 0, .int 0, .int 0, .int 0, .ref hpictures_37, .ref hshown_38, .ref hsighed_39])), (hpictures_37, eI G 6 (fun _ => 0)), (hshown_38, eI G 6 (fun _ => 0)), (hsighed_39, eI G 8 (fun _ => 0)), (q41, .inr (6, [.int 0, .int 0, .int 0, .ref rkeys_42, .ref rsigns_43, .ref rnumbers_44, .ref rstack_45])), (rkeys_42, eI G 40 (fun _ => 0)), (rsigns_43, eI G 40 (fun _ => 0)), (rnumbers_44, eI G 40 (fun _ => 0)), (rstack_45, eI G 40 (fun _ => 0)), (q46, .inr (6, [.int 0, .int 0, .int 0, .ref rkeys_47, .ref rsigns_48, .ref rnumbers_49, .ref rstack_50])), (rkeys_47, eI G 40 (fun _ => 0)), (rsigns_48, eI G 40 (fun _ => 0)), (rnumbers_49, eI G 40 (fun _ => 0)), (rstack_50, eI G 40 (fun _ => 0)), (q51, .inr (1, [.ref pkeys_52, .ref pwhos_53, .ref pfirsts_54, .ref pseconds_55, .int 0, .int 0])), (pkeys_52, eI G 40 (fun _ => 0)), (pwhos_53, eI G 40 (fun _ => 0)), (pfirsts_54, eI G 40 (fun _ => 0)), (pseconds_55, eI G 40 (fun _ => 0)), (q56, .inr (5, [.ref fbestPath_57, .int 0, .int 0, .ref fpath_58, .int 0, .int 0, .int 0])), (fbestPath_57, eI G 6 (fun _ => 0)), (fpath_58, eI G 6 (fun _ => 0)), (q59, .inr (0, [.ref nletters_60, .int 0])), (nletters_60, eC G 40 (fun _ => 0)), (q61, eIm G 2 (fun _ => none)), (q62, eI G 4 (fun _ => 0))]) C hw iwX10 tyX10_ok nmX10 9 rfl 0 rfl 16 (by decide) kw462 rfl rfl rfl (Nat.le_of_ble_eq_true rfl) rfl dX10_init_147 (fun H locs hw => ?_)
  refine lv_iconst (v := 0) C.1 C.2.1 dX10_init_150 (by decide) ?_
  refine lv_istore_n (lv' := [(1, .int 0), (0, .ref qx)]) C.1 C.2.1 dX10_init_151 rfl hl (by decide) rfl (fun ls hl => ?_)
  refine lv_iload_n C.1 C.2.1 dX10_init_152 rfl (lv_at hl 0 rfl) ?_
  refine lv_iconst (v := 2) C.1 C.2.1 dX10_init_153 (by decide) ?_
  refine lv_icmp_ge (tgt := 176) C.1 C.2.1 dX10_init_154 (by decide) (fun h9 => absurd h9 (by decide)) (fun _ => ?_)
  refine lv_aload_n C.1 C.2.1 dX10_init_157 rfl (lv_at hl 1 rfl) ?_
  refine x_get C hw iwX10 9 rfl 0 rfl 11 (by decide) kw457 rfl dX10_init_158 ?_
  refine lv_iload_n C.1 C.2.1 dX10_init_161 rfl (lv_at hl 0 rfl) ?_
  refine x_new (fs := [.int 0, .null, .null, .null]) C hw iwX3 tyX3_ok 3 rfl kw417 kw419 kw14 (by decide +kernel) (Nat.le_of_ble_eq_true rfl) (Nat.le_of_ble_eq_true rfl) dX10_init_162 (fun q63 H hw => ?_)
  have hw : Wd G s A [(qx, .inr (9, [.ref q1, .ref q5, .ref q15, .ref q25, .ref q29, .ref q33, .ref q41, .ref q46, .ref q51, .ref q56, .ref q59, .ref q61, .ref q62, .int 0, .int 0, .int (-1), .int (-1)])), (q1, .inr (8, [.ref kc_2, .ref bys_3, .int 0, .int 0, .int 0, .int 0, .int 0, .int 0, .long 0, .int 0, .int 0, .int 0])), (kc_2, eJ G 27 fkc_4), (bys_3, eB G 940 (fun _ => 0)), (q5, .inr (4, [.int 0, .int 0, .int 0, .int 0, .int 1, .int 0, .int 40, .int 0, .int 0, .ref sslideNames_6, .ref spictures_7, .ref sheats_8, .ref safter_9, .ref shearerNames_10, .ref sneeds_11, .ref slikes_12, .ref shates_13, .ref snear_14])), (sslideNames_6, eJ G 6 (fun _ => 0)), (spictures_7, eI G 6 (fun _ => 0)), (sheats_8, eI G 6 (fun _ => 0)), (safter_9, eI G 6 (fun _ => 0)), (shearerNames_10, eJ G 8 (fun _ => 0)), (sneeds_11, eI G 8 (fun _ => 0)), (slikes_12, eI G 8 (fun _ => 0)), (shates_13, eI G 8 (fun _ => 0)), (snear_14, eI G 8 (fun _ => 0)), (q15, .inr (4, [.int 0, .int 0, .int 0, .int 0, .int 1, .int 0, .int 40, .int 0, .int 0, .ref sslideNames_16, .ref spictures_17, .ref sheats_18, .ref safter_19, .ref shearerNames_20, .ref sneeds_21, .ref slikes_22, .ref shates_23, .ref snear_24])), (sslideNames_16, eJ G 6 (fun _ => 0)), (spictures_17, eI G 6 (fun _ => 0)), (sheats_18, eI G 6 (fun _ => 0)), (safter_19, eI G 6 (fun _ => 0)), (shearerNames_20, eJ G 8 (fun _ => 0)), (sneeds_21, eI G 8 (fun _ => 0)), (slikes_22, eI G 8 (fun _ => 0)), (shates_23, eI G 8 (fun _ => 0)), (snear_24, eI G 8 (fun _ => 0)), (q25, .inr (7, [.int 0, .int 0, .int 0, .int 0, .int 0, .int 0, .int 0, .int 0, .ref apictures_26, .ref ashown_27, .ref asighed_28])), (apictures_26, eI G 6 (fun _ => 0)), (ashown_27, eI G 6 (fun _ => 0)), (asighed_28, eI G 8 (fun _ => 0)), (q29, .inr (7, [.int 0, .int 0, .int 0, .int 0, .int 0, .int 0, .int 0, .int 0, .ref apictures_30, .ref ashown_31, .ref asighed_32])), (apictures_30, eI G 6 (fun _ => 0)), (ashown_31, eI G 6 (fun _ => 0)), (asighed_32, eI G 8 (fun _ => 0)), (q33, .inr (2, [.ref hk_34, .int 0, .int 0])), (hk_34, eSt G 8 hf_35), (hs_36, .inr (7, [.int 0, .int 0, .int 0, .int 0, .int 0, .int 0, .int 0, .int 0, .ref hpictures_37, .ref hshown_38, .ref hsighed_39])), (hpictures_37, eI G 6 (fun _ => 0)), (hshown_38, eI G 6 (fun _ => 0)), (hsighed_39, eI G 8 (fun _ => 0)), (q41, .inr (6, [.int 0, .int 0, .int 0, .ref rkeys_42, .ref rsigns_43, .ref rnumbers_44, .ref rstack_45])), (rkeys_42, eI G 40 (fun _ => 0)), (rsigns_43, eI G 40 (fun _ => 0)), (rnumbers_44, eI G 40 (fun _ => 0)), (rstack_45, eI G 40 (fun _ => 0)), (q46, .inr (6, [.int 0, .int 0, .int 0, .ref rkeys_47, .ref rsigns_48, .ref rnumbers_49, .ref rstack_50])), (rkeys_47, eI G 40 (fun _ => 0)), (rsigns_48, eI G 40 (fun _ => 0)), (rnumbers_49, eI G 40 (fun _ => 0)), (rstack_50, eI G 40 (fun _ => 0)), (q51, .inr (1, [.ref pkeys_52, .ref pwhos_53, .ref pfirsts_54, .ref pseconds_55, .int 0, .int 0])), (pkeys_52, eI G 40 (fun _ => 0)), (pwhos_53, eI G 40 (fun _ => 0)), (pfirsts_54, eI G 40 (fun _ => 0)), (pseconds_55, eI G 40 (fun _ => 0)), (q56, .inr (5, [.ref fbestPath_57, .int 0, .int 0, .ref fpath_58, .int 0, .int 0, .int 0])), (fbestPath_57, eI G 6 (fun _ => 0)), (fpath_58, eI G 6 (fun _ => 0)), (q59, .inr (0, [.ref nletters_60, .int 0])), (nletters_60, eC G 40 (fun _ => 0)), (q61, eIm G 2 (fun _ => none)), (q62, eI G 4 (fun _ => 0)), (q63, .inr (3, [.int 0, .null, .null, .null]))] H _ := hw
  refine W.widen (k := 88) (n := 2035) (Nat.le_of_ble_eq_true rfl) (Nat.le_of_ble_eq_true rfl) ?_
  refine lv_dup C.1 C.2.1 dX10_init_165 rfl ?_
  refine x_callvIN (As := []) (rest := [.ref q63, .int 0, .ref q61]) (wr := [(qx, .inr (9, [.ref q1, .ref q5, .ref q15, .ref q25, .ref q29, .ref q33, .ref q41, .ref q46, .ref q51, .ref q56, .ref q59, .ref q61, .ref q62, .int 0, .int 0, .int (-1), .int (-1)])), (q1, .inr (8, [.ref kc_2, .ref bys_3, .int 0, .int 0, .int 0, .int 0, .int 0, .int 0, .long 0, .int 0, .int 0, .int 0])), (kc_2, eJ G 27 fkc_4), (bys_3, eB G 940 (fun _ => 0)), (q5, .inr (4, [.int 0, .int 0, .int 0, .int 0, .int 1, .int 0, .int 40, .int 0, .int 0, .ref sslideNames_6, .ref spictures_7, .ref sheats_8, .ref safter_9, .ref shearerNames_10, .ref sneeds_11, .ref slikes_12, .ref shates_13, .ref snear_14])), (sslideNames_6, eJ G 6 (fun _ => 0)), (spictures_7, eI G 6 (fun _ => 0)), (sheats_8, eI G 6 (fun _ => 0)), (safter_9, eI G 6 (fun _ => 0)), (shearerNames_10, eJ G 8 (fun _ => 0)), (sneeds_11, eI G 8 (fun _ => 0)), (slikes_12, eI G 8 (fun _ => 0)), (shates_13, eI G 8 (fun _ => 0)), (snear_14, eI G 8 (fun _ => 0)), (q15, .inr (4, [.int 0, .int 0, .int 0, .int 0, .int 1, .int 0, .int 40, .int 0, .int 0, .ref sslideNames_16, .ref spictures_17, .ref sheats_18, .ref safter_19, .ref shearerNames_20, .ref sneeds_21, .ref slikes_22, .ref shates_23, .ref snear_24])), (sslideNames_16, eJ G 6 (fun _ => 0)), (spictures_17, eI G 6 (fun _ => 0)), (sheats_18, eI G 6 (fun _ => 0)), (safter_19, eI G 6 (fun _ => 0)), (shearerNames_20, eJ G 8 (fun _ => 0)), (sneeds_21, eI G 8 (fun _ => 0)), (slikes_22, eI G 8 (fun _ => 0)), (shates_23, eI G 8 (fun _ => 0)), (snear_24, eI G 8 (fun _ => 0)), (q25, .inr (7, [.int 0, .int 0, .int 0, .int 0, .int 0, .int 0, .int 0, .int 0, .ref apictures_26, .ref ashown_27, .ref asighed_28])), (apictures_26, eI G 6 (fun _ => 0)), (ashown_27, eI G 6 (fun _ => 0)), (asighed_28, eI G 8 (fun _ => 0)), (q29, .inr (7, [.int 0, .int 0, .int 0, .int 0, .int 0, .int 0, .int 0, .int 0, .ref apictures_30, .ref ashown_31, .ref asighed_32])), (apictures_30, eI G 6 (fun _ => 0)), (ashown_31, eI G 6 (fun _ => 0)), (asighed_32, eI G 8 (fun _ => 0)), (q33, .inr (2, [.ref hk_34, .int 0, .int 0])), (hk_34, eSt G 8 hf_35), (hs_36, .inr (7, [.int 0, .int 0, .int 0, .int 0, .int 0, .int 0, .int 0, .int 0, .ref hpictures_37, .ref hshown_38, .ref hsighed_39])), (hpictures_37, eI G 6 (fun _ => 0)), (hshown_38, eI G 6 (fun _ => 0)), (hsighed_39, eI G 8 (fun _ => 0)), (q41, .inr (6, [.int 0, .int 0, .int 0, .ref rkeys_42, .ref rsigns_43, .ref rnumbers_44, .ref rstack_45])), (rkeys_42, eI G 40 (fun _ => 0)), (rsigns_43, eI G 40 (fun _ => 0)), (rnumbers_44, eI G 40 (fun _ => 0)), (rstack_45, eI G 40 (fun _ => 0)), (q46, .inr (6, [.int 0, .int 0, .int 0, .ref rkeys_47, .ref rsigns_48, .ref rnumbers_49, .ref rstack_50])), (rkeys_47, eI G 40 (fun _ => 0)), (rsigns_48, eI G 40 (fun _ => 0)), (rnumbers_49, eI G 40 (fun _ => 0)), (rstack_50, eI G 40 (fun _ => 0)), (q51, .inr (1, [.ref pkeys_52, .ref pwhos_53, .ref pfirsts_54, .ref pseconds_55, .int 0, .int 0])), (pkeys_52, eI G 40 (fun _ => 0)), (pwhos_53, eI G 40 (fun _ => 0)), (pfirsts_54, eI G 40 (fun _ => 0)), (pseconds_55, eI G 40 (fun _ => 0)), (q56, .inr (5, [.ref fbestPath_57, .int 0, .int 0, .ref fpath_58, .int 0, .int 0, .int 0])), (fbestPath_57, eI G 6 (fun _ => 0)), (fpath_58, eI G 6 (fun _ => 0)), (q59, .inr (0, [.ref nletters_60, .int 0])), (nletters_60, eC G 40 (fun _ => 0)), (q61, eIm G 2 (fun _ => none)), (q62, eI G 4 (fun _ => 0))]) C hw (c_X3_init q63) mwX3_init (nst7 hw.1) [60] [0, 1, 2, 3, 4, 5, 6, 7, 8, 9, 10, 11, 12, 13, 14, 15, 16, 17, 18, 19, 20, 21, 22, 23, 24, 25, 26, 27, 28, 29, 30, 31, 32, 33, 34, 35, 36, 37, 38, 39, 40, 41, 42, 43, 44, 45, 46, 47, 48, 49, 50, 51, 52, 53, 54, 55, 56, 57, 58, 59] rfl rfl rfl rfl (by decide) rfl hl.1 rfl (Nat.le_of_ble_eq_true rfl) ⟨(Nat.le_of_ble_eq_true rfl), (Nat.le_of_ble_eq_true rfl)⟩ ⟨(Nat.le_of_ble_eq_true rfl), (Nat.le_of_ble_eq_true rfl)⟩ dX10_init_166 (fun  u9 H locs hp9 hw => ?_)
  obtain ⟨is_64, isslideNames_65, ispictures_66, isheats_67, isafter_68, ishearerNames_69, isneeds_70, islikes_71, ishates_72, isnear_73, ia_74, iapictures_75, iashown_76, iasighed_77, ir_78, irkeys_79, irsigns_80, irnumbers_81, irstack_82, rfl⟩ := hp9
  have hw : Wd G s A [(qx, .inr (9, [.ref q1, .ref q5, .ref q15, .ref q25, .ref q29, .ref q33, .ref q41, .ref q46, .ref q51, .ref q56, .ref q59, .ref q61, .ref q62, .int 0, .int 0, .int (-1), .int (-1)])), (q1, .inr (8, [.ref kc_2, .ref bys_3, .int 0, .int 0, .int 0, .int 0, .int 0, .int 0, .long 0, .int 0, .int 0, .int 0])), (kc_2, eJ G 27 fkc_4), (bys_3, eB G 940 (fun _ => 0)), (q5, .inr (4, [.int 0, .int 0, .int 0, .int 0, .int 1, .int 0, .int 40, .int 0, .int 0, .ref sslideNames_6, .ref spictures_7, .ref sheats_8, .ref safter_9, .ref shearerNames_10, .ref sneeds_11, .ref slikes_12, .ref shates_13, .ref snear_14])), (sslideNames_6, eJ G 6 (fun _ => 0)), (spictures_7, eI G 6 (fun _ => 0)), (sheats_8, eI G 6 (fun _ => 0)), (safter_9, eI G 6 (fun _ => 0)), (shearerNames_10, eJ G 8 (fun _ => 0)), (sneeds_11, eI G 8 (fun _ => 0)), (slikes_12, eI G 8 (fun _ => 0)), (shates_13, eI G 8 (fun _ => 0)), (snear_14, eI G 8 (fun _ => 0)), (q15, .inr (4, [.int 0, .int 0, .int 0, .int 0, .int 1, .int 0, .int 40, .int 0, .int 0, .ref sslideNames_16, .ref spictures_17, .ref sheats_18, .ref safter_19, .ref shearerNames_20, .ref sneeds_21, .ref slikes_22, .ref shates_23, .ref snear_24])), (sslideNames_16, eJ G 6 (fun _ => 0)), (spictures_17, eI G 6 (fun _ => 0)), (sheats_18, eI G 6 (fun _ => 0)), (safter_19, eI G 6 (fun _ => 0)), (shearerNames_20, eJ G 8 (fun _ => 0)), (sneeds_21, eI G 8 (fun _ => 0)), (slikes_22, eI G 8 (fun _ => 0)), (shates_23, eI G 8 (fun _ => 0)), (snear_24, eI G 8 (fun _ => 0)), (q25, .inr (7, [.int 0, .int 0, .int 0, .int 0, .int 0, .int 0, .int 0, .int 0, .ref apictures_26, .ref ashown_27, .ref asighed_28])), (apictures_26, eI G 6 (fun _ => 0)), (ashown_27, eI G 6 (fun _ => 0)), (asighed_28, eI G 8 (fun _ => 0)), (q29, .inr (7, [.int 0, .int 0, .int 0, .int 0, .int 0, .int 0, .int 0, .int 0, .ref apictures_30, .ref ashown_31, .ref asighed_32])), (apictures_30, eI G 6 (fun _ => 0)), (ashown_31, eI G 6 (fun _ => 0)), (asighed_32, eI G 8 (fun _ => 0)), (q33, .inr (2, [.ref hk_34, .int 0, .int 0])), (hk_34, eSt G 8 hf_35), (hs_36, .inr (7, [.int 0, .int 0, .int 0, .int 0, .int 0, .int 0, .int 0, .int 0, .ref hpictures_37, .ref hshown_38, .ref hsighed_39])), (hpictures_37, eI G 6 (fun _ => 0)), (hshown_38, eI G 6 (fun _ => 0)), (hsighed_39, eI G 8 (fun _ => 0)), (q41, .inr (6, [.int 0, .int 0, .int 0, .ref rkeys_42, .ref rsigns_43, .ref rnumbers_44, .ref rstack_45])), (rkeys_42, eI G 40 (fun _ => 0)), (rsigns_43, eI G 40 (fun _ => 0)), (rnumbers_44, eI G 40 (fun _ => 0)), (rstack_45, eI G 40 (fun _ => 0)), (q46, .inr (6, [.int 0, .int 0, .int 0, .ref rkeys_47, .ref rsigns_48, .ref rnumbers_49, .ref rstack_50])), (rkeys_47, eI G 40 (fun _ => 0)), (rsigns_48, eI G 40 (fun _ => 0)), (rnumbers_49, eI G 40 (fun _ => 0)), (rstack_50, eI G 40 (fun _ => 0)), (q51, .inr (1, [.ref pkeys_52, .ref pwhos_53, .ref pfirsts_54, .ref pseconds_55, .int 0, .int 0])), (pkeys_52, eI G 40 (fun _ => 0)), (pwhos_53, eI G 40 (fun _ => 0)), (pfirsts_54, eI G 40 (fun _ => 0)), (pseconds_55, eI G 40 (fun _ => 0)), (q56, .inr (5, [.ref fbestPath_57, .int 0, .int 0, .ref fpath_58, .int 0, .int 0, .int 0])), (fbestPath_57, eI G 6 (fun _ => 0)), (fpath_58, eI G 6 (fun _ => 0)), (q59, .inr (0, [.ref nletters_60, .int 0])), (nletters_60, eC G 40 (fun _ => 0)), (q61, eIm G 2 (fun _ => none)), (q62, eI G 4 (fun _ => 0)), (q63, .inr (3, [.int 0, .ref is_64, .ref ia_74, .ref ir_78])), (is_64, .inr (4, [.int 0, .int 0, .int 0, .int 0, .int 1, .int 0, .int 40, .int 0, .int 0, .ref isslideNames_65, .ref ispictures_66, .ref isheats_67, .ref isafter_68, .ref ishearerNames_69, .ref isneeds_70, .ref islikes_71, .ref ishates_72, .ref isnear_73])), (isslideNames_65, eJ G 6 (fun _ => 0)), (ispictures_66, eI G 6 (fun _ => 0)), (isheats_67, eI G 6 (fun _ => 0)), (isafter_68, eI G 6 (fun _ => 0)), (ishearerNames_69, eJ G 8 (fun _ => 0)), (isneeds_70, eI G 8 (fun _ => 0)), (islikes_71, eI G 8 (fun _ => 0)), (ishates_72, eI G 8 (fun _ => 0)), (isnear_73, eI G 8 (fun _ => 0)), (ia_74, .inr (7, [.int 0, .int 0, .int 0, .int 0, .int 0, .int 0, .int 0, .int 0, .ref iapictures_75, .ref iashown_76, .ref iasighed_77])), (iapictures_75, eI G 6 (fun _ => 0)), (iashown_76, eI G 6 (fun _ => 0)), (iasighed_77, eI G 8 (fun _ => 0)), (ir_78, .inr (6, [.int 0, .int 0, .int 0, .ref irkeys_79, .ref irsigns_80, .ref irnumbers_81, .ref irstack_82])), (irkeys_79, eI G 40 (fun _ => 0)), (irsigns_80, eI G 40 (fun _ => 0)), (irnumbers_81, eI G 40 (fun _ => 0)), (irstack_82, eI G 40 (fun _ => 0))] H _ := hw
  refine W.widen (k := 107) (n := 2315) (Nat.le_of_ble_eq_true rfl) (Nat.le_of_ble_eq_true rfl) ?_
  refine x_astIm (f' := (va_up (fun _ => none) 0 (some q63))) (w' := [(qx, .inr (9, [.ref q1, .ref q5, .ref q15, .ref q25, .ref q29, .ref q33, .ref q41, .ref q46, .ref q51, .ref q56, .ref q59, .ref q61, .ref q62, .int 0, .int 0, .int (-1), .int (-1)])), (q1, .inr (8, [.ref kc_2, .ref bys_3, .int 0, .int 0, .int 0, .int 0, .int 0, .int 0, .long 0, .int 0, .int 0, .int 0])), (kc_2, eJ G 27 fkc_4), (bys_3, eB G 940 (fun _ => 0)), (q5, .inr (4, [.int 0, .int 0, .int 0, .int 0, .int 1, .int 0, .int 40, .int 0, .int 0, .ref sslideNames_6, .ref spictures_7, .ref sheats_8, .ref safter_9, .ref shearerNames_10, .ref sneeds_11, .ref slikes_12, .ref shates_13, .ref snear_14])), (sslideNames_6, eJ G 6 (fun _ => 0)), (spictures_7, eI G 6 (fun _ => 0)), (sheats_8, eI G 6 (fun _ => 0)), (safter_9, eI G 6 (fun _ => 0)), (shearerNames_10, eJ G 8 (fun _ => 0)), (sneeds_11, eI G 8 (fun _ => 0)), (slikes_12, eI G 8 (fun _ => 0)), (shates_13, eI G 8 (fun _ => 0)), (snear_14, eI G 8 (fun _ => 0)), (q15, .inr (4, [.int 0, .int 0, .int 0, .int 0, .int 1, .int 0, .int 40, .int 0, .int 0, .ref sslideNames_16, .ref spictures_17, .ref sheats_18, .ref safter_19, .ref shearerNames_20, .ref sneeds_21, .ref slikes_22, .ref shates_23, .ref snear_24])), (sslideNames_16, eJ G 6 (fun _ => 0)), (spictures_17, eI G 6 (fun _ => 0)), (sheats_18, eI G 6 (fun _ => 0)), (safter_19, eI G 6 (fun _ => 0)), (shearerNames_20, eJ G 8 (fun _ => 0)), (sneeds_21, eI G 8 (fun _ => 0)), (slikes_22, eI G 8 (fun _ => 0)), (shates_23, eI G 8 (fun _ => 0)), (snear_24, eI G 8 (fun _ => 0)), (q25, .inr (7, [.int 0, .int 0, .int 0, .int 0, .int 0, .int 0, .int 0, .int 0, .ref apictures_26, .ref ashown_27, .ref asighed_28])), (apictures_26, eI G 6 (fun _ => 0)), (ashown_27, eI G 6 (fun _ => 0)), (asighed_28, eI G 8 (fun _ => 0)), (q29, .inr (7, [.int 0, .int 0, .int 0, .int 0, .int 0, .int 0, .int 0, .int 0, .ref apictures_30, .ref ashown_31, .ref asighed_32])), (apictures_30, eI G 6 (fun _ => 0)), (ashown_31, eI G 6 (fun _ => 0)), (asighed_32, eI G 8 (fun _ => 0)), (q33, .inr (2, [.ref hk_34, .int 0, .int 0])), (hk_34, eSt G 8 hf_35), (hs_36, .inr (7, [.int 0, .int 0, .int 0, .int 0, .int 0, .int 0, .int 0, .int 0, .ref hpictures_37, .ref hshown_38, .ref hsighed_39])), (hpictures_37, eI G 6 (fun _ => 0)), (hshown_38, eI G 6 (fun _ => 0)), (hsighed_39, eI G 8 (fun _ => 0)), (q41, .inr (6, [.int 0, .int 0, .int 0, .ref rkeys_42, .ref rsigns_43, .ref rnumbers_44, .ref rstack_45])), (rkeys_42, eI G 40 (fun _ => 0)), (rsigns_43, eI G 40 (fun _ => 0)), (rnumbers_44, eI G 40 (fun _ => 0)), (rstack_45, eI G 40 (fun _ => 0)), (q46, .inr (6, [.int 0, .int 0, .int 0, .ref rkeys_47, .ref rsigns_48, .ref rnumbers_49, .ref rstack_50])), (rkeys_47, eI G 40 (fun _ => 0)), (rsigns_48, eI G 40 (fun _ => 0)), (rnumbers_49, eI G 40 (fun _ => 0)), (rstack_50, eI G 40 (fun _ => 0)), (q51, .inr (1, [.ref pkeys_52, .ref pwhos_53, .ref pfirsts_54, .ref pseconds_55, .int 0, .int 0])), (pkeys_52, eI G 40 (fun _ => 0)), (pwhos_53, eI G 40 (fun _ => 0)), (pfirsts_54, eI G 40 (fun _ => 0)), (pseconds_55, eI G 40 (fun _ => 0)), (q56, .inr (5, [.ref fbestPath_57, .int 0, .int 0, .ref fpath_58, .int 0, .int 0, .int 0])), (fbestPath_57, eI G 6 (fun _ => 0)), (fpath_58, eI G 6 (fun _ => 0)), (q59, .inr (0, [.ref nletters_60, .int 0])), (nletters_60, eC G 40 (fun _ => 0)), (q61, eIm G 2 (va_up (fun _ => none) 0 (some q63))), (q62, eI G 4 (fun _ => 0)), (q63, .inr (3, [.int 0, .ref is_64, .ref ia_74, .ref ir_78])), (is_64, .inr (4, [.int 0, .int 0, .int 0, .int 0, .int 1, .int 0, .int 40, .int 0, .int 0, .ref isslideNames_65, .ref ispictures_66, .ref isheats_67, .ref isafter_68, .ref ishearerNames_69, .ref isneeds_70, .ref islikes_71, .ref ishates_72, .ref isnear_73])), (isslideNames_65, eJ G 6 (fun _ => 0)), (ispictures_66, eI G 6 (fun _ => 0)), (isheats_67, eI G 6 (fun _ => 0)), (isafter_68, eI G 6 (fun _ => 0)), (ishearerNames_69, eJ G 8 (fun _ => 0)), (isneeds_70, eI G 8 (fun _ => 0)), (islikes_71, eI G 8 (fun _ => 0)), (ishates_72, eI G 8 (fun _ => 0)), (isnear_73, eI G 8 (fun _ => 0)), (ia_74, .inr (7, [.int 0, .int 0, .int 0, .int 0, .int 0, .int 0, .int 0, .int 0, .ref iapictures_75, .ref iashown_76, .ref iasighed_77])), (iapictures_75, eI G 6 (fun _ => 0)), (iashown_76, eI G 6 (fun _ => 0)), (iasighed_77, eI G 8 (fun _ => 0)), (ir_78, .inr (6, [.int 0, .int 0, .int 0, .ref irkeys_79, .ref irsigns_80, .ref irnumbers_81, .ref irstack_82])), (irkeys_79, eI G 40 (fun _ => 0)), (irsigns_80, eI G 40 (fun _ => 0)), (irnumbers_81, eI G 40 (fun _ => 0)), (irstack_82, eI G 40 (fun _ => 0))]) C hw 58 60 rfl rfl (x_in rfl) rfl rfl dX10_init_169 (fun H locs hw => ?_)
  refine lv_iinc (v := 1) (lv' := [(1, .int 1), (0, .ref qx)]) C.1 C.2.1 dX10_init_170 hl (k := 0) rfl (by decide) (by decide) rfl (fun ls hl => ?_)
  refine lv_goto (tgt := 152) C.1 C.2.1 dX10_init_173 (by decide) ?_
  refine lv_iload_n C.1 C.2.1 dX10_init_152 rfl (lv_at hl 0 rfl) ?_
  refine lv_iconst (v := 2) C.1 C.2.1 dX10_init_153 (by decide) ?_
  refine lv_icmp_ge (tgt := 176) C.1 C.2.1 dX10_init_154 (by decide) (fun h9 => absurd h9 (by decide)) (fun _ => ?_)
  refine lv_aload_n C.1 C.2.1 dX10_init_157 rfl (lv_at hl 1 rfl) ?_
  refine x_get C hw iwX10 9 rfl 0 rfl 11 (by decide) kw457 rfl dX10_init_158 ?_
  refine lv_iload_n C.1 C.2.1 dX10_init_161 rfl (lv_at hl 0 rfl) ?_
  refine x_new (fs := [.int 0, .null, .null, .null]) C hw iwX3 tyX3_ok 3 rfl kw417 kw419 kw14 (by decide +kernel) (Nat.le_of_ble_eq_true rfl) (Nat.le_of_ble_eq_true rfl) dX10_init_162 (fun q83 H hw => ?_)
  have hw : Wd G s A [(qx, .inr (9, [.ref q1, .ref q5, .ref q15, .ref q25, .ref q29, .ref q33, .ref q41, .ref q46, .ref q51, .ref q56, .ref q59, .ref q61, .ref q62, .int 0, .int 0, .int (-1), .int (-1)])), (q1, .inr (8, [.ref kc_2, .ref bys_3, .int 0, .int 0, .int 0, .int 0, .int 0, .int 0, .long 0, .int 0, .int 0, .int 0])), (kc_2, eJ G 27 fkc_4), (bys_3, eB G 940 (fun _ => 0)), (q5, .inr (4, [.int 0, .int 0, .int 0, .int 0, .int 1, .int 0, .int 40, .int 0, .int 0, .ref sslideNames_6, .ref spictures_7, .ref sheats_8, .ref safter_9, .ref shearerNames_10, .ref sneeds_11, .ref slikes_12, .ref shates_13, .ref snear_14])), (sslideNames_6, eJ G 6 (fun _ => 0)), (spictures_7, eI G 6 (fun _ => 0)), (sheats_8, eI G 6 (fun _ => 0)), (safter_9, eI G 6 (fun _ => 0)), (shearerNames_10, eJ G 8 (fun _ => 0)), (sneeds_11, eI G 8 (fun _ => 0)), (slikes_12, eI G 8 (fun _ => 0)), (shates_13, eI G 8 (fun _ => 0)), (snear_14, eI G 8 (fun _ => 0)), (q15, .inr (4, [.int 0, .int 0, .int 0, .int 0, .int 1, .int 0, .int 40, .int 0, .int 0, .ref sslideNames_16, .ref spictures_17, .ref sheats_18, .ref safter_19, .ref shearerNames_20, .ref sneeds_21, .ref slikes_22, .ref shates_23, .ref snear_24])), (sslideNames_16, eJ G 6 (fun _ => 0)), (spictures_17, eI G 6 (fun _ => 0)), (sheats_18, eI G 6 (fun _ => 0)), (safter_19, eI G 6 (fun _ => 0)), (shearerNames_20, eJ G 8 (fun _ => 0)), (sneeds_21, eI G 8 (fun _ => 0)), (slikes_22, eI G 8 (fun _ => 0)), (shates_23, eI G 8 (fun _ => 0)), (snear_24, eI G 8 (fun _ => 0)), (q25, .inr (7, [.int 0, .int 0, .int 0, .int 0, .int 0, .int 0, .int 0, .int 0, .ref apictures_26, .ref ashown_27, .ref asighed_28])), (apictures_26, eI G 6 (fun _ => 0)), (ashown_27, eI G 6 (fun _ => 0)), (asighed_28, eI G 8 (fun _ => 0)), (q29, .inr (7, [.int 0, .int 0, .int 0, .int 0, .int 0, .int 0, .int 0, .int 0, .ref apictures_30, .ref ashown_31, .ref asighed_32])), (apictures_30, eI G 6 (fun _ => 0)), (ashown_31, eI G 6 (fun _ => 0)), (asighed_32, eI G 8 (fun _ => 0)), (q33, .inr (2, [.ref hk_34, .int 0, .int 0])), (hk_34, eSt G 8 hf_35), (hs_36, .inr (7, [.int 0, .int 0, .int 0, .int 0, .int 0, .int 0, .int 0, .int 0, .ref hpictures_37, .ref hshown_38, .ref hsighed_39])), (hpictures_37, eI G 6 (fun _ => 0)), (hshown_38, eI G 6 (fun _ => 0)), (hsighed_39, eI G 8 (fun _ => 0)), (q41, .inr (6, [.int 0, .int 0, .int 0, .ref rkeys_42, .ref rsigns_43, .ref rnumbers_44, .ref rstack_45])), (rkeys_42, eI G 40 (fun _ => 0)), (rsigns_43, eI G 40 (fun _ => 0)), (rnumbers_44, eI G 40 (fun _ => 0)), (rstack_45, eI G 40 (fun _ => 0)), (q46, .inr (6, [.int 0, .int 0, .int 0, .ref rkeys_47, .ref rsigns_48, .ref rnumbers_49, .ref rstack_50])), (rkeys_47, eI G 40 (fun _ => 0)), (rsigns_48, eI G 40 (fun _ => 0)), (rnumbers_49, eI G 40 (fun _ => 0)), (rstack_50, eI G 40 (fun _ => 0)), (q51, .inr (1, [.ref pkeys_52, .ref pwhos_53, .ref pfirsts_54, .ref pseconds_55, .int 0, .int 0])), (pkeys_52, eI G 40 (fun _ => 0)), (pwhos_53, eI G 40 (fun _ => 0)), (pfirsts_54, eI G 40 (fun _ => 0)), (pseconds_55, eI G 40 (fun _ => 0)), (q56, .inr (5, [.ref fbestPath_57, .int 0, .int 0, .ref fpath_58, .int 0, .int 0, .int 0])), (fbestPath_57, eI G 6 (fun _ => 0)), (fpath_58, eI G 6 (fun _ => 0)), (q59, .inr (0, [.ref nletters_60, .int 0])), (nletters_60, eC G 40 (fun _ => 0)), (q61, eIm G 2 (va_up (fun _ => none) 0 (some q63))), (q62, eI G 4 (fun _ => 0)), (q63, .inr (3, [.int 0, .ref is_64, .ref ia_74, .ref ir_78])), (is_64, .inr (4, [.int 0, .int 0, .int 0, .int 0, .int 1, .int 0, .int 40, .int 0, .int 0, .ref isslideNames_65, .ref ispictures_66, .ref isheats_67, .ref isafter_68, .ref ishearerNames_69, .ref isneeds_70, .ref islikes_71, .ref ishates_72, .ref isnear_73])), (isslideNames_65, eJ G 6 (fun _ => 0)), (ispictures_66, eI G 6 (fun _ => 0)), (isheats_67, eI G 6 (fun _ => 0)), (isafter_68, eI G 6 (fun _ => 0)), (ishearerNames_69, eJ G 8 (fun _ => 0)), (isneeds_70, eI G 8 (fun _ => 0)), (islikes_71, eI G 8 (fun _ => 0)), (ishates_72, eI G 8 (fun _ => 0)), (isnear_73, eI G 8 (fun _ => 0)), (ia_74, .inr (7, [.int 0, .int 0, .int 0, .int 0, .int 0, .int 0, .int 0, .int 0, .ref iapictures_75, .ref iashown_76, .ref iasighed_77])), (iapictures_75, eI G 6 (fun _ => 0)), (iashown_76, eI G 6 (fun _ => 0)), (iasighed_77, eI G 8 (fun _ => 0)), (ir_78, .inr (6, [.int 0, .int 0, .int 0, .ref irkeys_79, .ref irsigns_80, .ref irnumbers_81, .ref irstack_82])), (irkeys_79, eI G 40 (fun _ => 0)), (irsigns_80, eI G 40 (fun _ => 0)), (irnumbers_81, eI G 40 (fun _ => 0)), (irstack_82, eI G 40 (fun _ => 0)), (q83, .inr (3, [.int 0, .null, .null, .null]))] H _ := hw
  refine W.widen (k := 108) (n := 2319) (Nat.le_of_ble_eq_true rfl) (Nat.le_of_ble_eq_true rfl) ?_
  refine lv_dup C.1 C.2.1 dX10_init_165 rfl ?_
  refine x_callvIN (As := []) (rest := [.ref q83, .int 1, .ref q61]) (wr := [(qx, .inr (9, [.ref q1, .ref q5, .ref q15, .ref q25, .ref q29, .ref q33, .ref q41, .ref q46, .ref q51, .ref q56, .ref q59, .ref q61, .ref q62, .int 0, .int 0, .int (-1), .int (-1)])), (q1, .inr (8, [.ref kc_2, .ref bys_3, .int 0, .int 0, .int 0, .int 0, .int 0, .int 0, .long 0, .int 0, .int 0, .int 0])), (kc_2, eJ G 27 fkc_4), (bys_3, eB G 940 (fun _ => 0)), (q5, .inr (4, [.int 0, .int 0, .int 0, .int 0, .int 1, .int 0, .int 40, .int 0, .int 0, .ref sslideNames_6, .ref spictures_7, .ref sheats_8, .ref safter_9, .ref shearerNames_10, .ref sneeds_11, .ref slikes_12, .ref shates_13, .ref snear_14])), (sslideNames_6, eJ G 6 (fun _ => 0)), (spictures_7, eI G 6 (fun _ => 0)), (sheats_8, eI G 6 (fun _ => 0)), (safter_9, eI G 6 (fun _ => 0)), (shearerNames_10, eJ G 8 (fun _ => 0)), (sneeds_11, eI G 8 (fun _ => 0)), (slikes_12, eI G 8 (fun _ => 0)), (shates_13, eI G 8 (fun _ => 0)), (snear_14, eI G 8 (fun _ => 0)), (q15, .inr (4, [.int 0, .int 0, .int 0, .int 0, .int 1, .int 0, .int 40, .int 0, .int 0, .ref sslideNames_16, .ref spictures_17, .ref sheats_18, .ref safter_19, .ref shearerNames_20, .ref sneeds_21, .ref slikes_22, .ref shates_23, .ref snear_24])), (sslideNames_16, eJ G 6 (fun _ => 0)), (spictures_17, eI G 6 (fun _ => 0)), (sheats_18, eI G 6 (fun _ => 0)), (safter_19, eI G 6 (fun _ => 0)), (shearerNames_20, eJ G 8 (fun _ => 0)), (sneeds_21, eI G 8 (fun _ => 0)), (slikes_22, eI G 8 (fun _ => 0)), (shates_23, eI G 8 (fun _ => 0)), (snear_24, eI G 8 (fun _ => 0)), (q25, .inr (7, [.int 0, .int 0, .int 0, .int 0, .int 0, .int 0, .int 0, .int 0, .ref apictures_26, .ref ashown_27, .ref asighed_28])), (apictures_26, eI G 6 (fun _ => 0)), (ashown_27, eI G 6 (fun _ => 0)), (asighed_28, eI G 8 (fun _ => 0)), (q29, .inr (7, [.int 0, .int 0, .int 0, .int 0, .int 0, .int 0, .int 0, .int 0, .ref apictures_30, .ref ashown_31, .ref asighed_32])), (apictures_30, eI G 6 (fun _ => 0)), (ashown_31, eI G 6 (fun _ => 0)), (asighed_32, eI G 8 (fun _ => 0)), (q33, .inr (2, [.ref hk_34, .int 0, .int 0])), (hk_34, eSt G 8 hf_35), (hs_36, .inr (7, [.int 0, .int 0, .int 0, .int 0, .int 0, .int 0, .int 0, .int 0, .ref hpictures_37, .ref hshown_38, .ref hsighed_39])), (hpictures_37, eI G 6 (fun _ => 0)), (hshown_38, eI G 6 (fun _ => 0)), (hsighed_39, eI G 8 (fun _ => 0)), (q41, .inr (6, [.int 0, .int 0, .int 0, .ref rkeys_42, .ref rsigns_43, .ref rnumbers_44, .ref rstack_45])), (rkeys_42, eI G 40 (fun _ => 0)), (rsigns_43, eI G 40 (fun _ => 0)), (rnumbers_44, eI G 40 (fun _ => 0)), (rstack_45, eI G 40 (fun _ => 0)), (q46, .inr (6, [.int 0, .int 0, .int 0, .ref rkeys_47, .ref rsigns_48, .ref rnumbers_49, .ref rstack_50])), (rkeys_47, eI G 40 (fun _ => 0)), (rsigns_48, eI G 40 (fun _ => 0)), (rnumbers_49, eI G 40 (fun _ => 0)), (rstack_50, eI G 40 (fun _ => 0)), (q51, .inr (1, [.ref pkeys_52, .ref pwhos_53, .ref pfirsts_54, .ref pseconds_55, .int 0, .int 0])), (pkeys_52, eI G 40 (fun _ => 0)), (pwhos_53, eI G 40 (fun _ => 0)), (pfirsts_54, eI G 40 (fun _ => 0)), (pseconds_55, eI G 40 (fun _ => 0)), (q56, .inr (5, [.ref fbestPath_57, .int 0, .int 0, .ref fpath_58, .int 0, .int 0, .int 0])), (fbestPath_57, eI G 6 (fun _ => 0)), (fpath_58, eI G 6 (fun _ => 0)), (q59, .inr (0, [.ref nletters_60, .int 0])), (nletters_60, eC G 40 (fun _ => 0)), (q61, eIm G 2 (va_up (fun _ => none) 0 (some q63))), (q62, eI G 4 (fun _ => 0)), (q63, .inr (3, [.int 0, .ref is_64, .ref ia_74, .ref ir_78])), (is_64, .inr (4, [.int 0, .int 0, .int 0, .int 0, .int 1, .int 0, .int 40, .int 0, .int 0, .ref isslideNames_65, .ref ispictures_66, .ref isheats_67, .ref isafter_68, .ref ishearerNames_69, .ref isneeds_70, .ref islikes_71, .ref ishates_72, .ref isnear_73])), (isslideNames_65, eJ G 6 (fun _ => 0)), (ispictures_66, eI G 6 (fun _ => 0)), (isheats_67, eI G 6 (fun _ => 0)), (isafter_68, eI G 6 (fun _ => 0)), (ishearerNames_69, eJ G 8 (fun _ => 0)), (isneeds_70, eI G 8 (fun _ => 0)), (islikes_71, eI G 8 (fun _ => 0)), (ishates_72, eI G 8 (fun _ => 0)), (isnear_73, eI G 8 (fun _ => 0)), (ia_74, .inr (7, [.int 0, .int 0, .int 0, .int 0, .int 0, .int 0, .int 0, .int 0, .ref iapictures_75, .ref iashown_76, .ref iasighed_77])), (iapictures_75, eI G 6 (fun _ => 0)), (iashown_76, eI G 6 (fun _ => 0)), (iasighed_77, eI G 8 (fun _ => 0)), (ir_78, .inr (6, [.int 0, .int 0, .int 0, .ref irkeys_79, .ref irsigns_80, .ref irnumbers_81, .ref irstack_82])), (irkeys_79, eI G 40 (fun _ => 0)), (irsigns_80, eI G 40 (fun _ => 0)), (irnumbers_81, eI G 40 (fun _ => 0)), (irstack_82, eI G 40 (fun _ => 0))]) C hw (c_X3_init q83) mwX3_init (nst7 hw.1) [80] [0, 1, 2, 3, 4, 5, 6, 7, 8, 9, 10, 11, 12, 13, 14, 15, 16, 17, 18, 19, 20, 21, 22, 23, 24, 25, 26, 27, 28, 29, 30, 31, 32, 33, 34, 35, 36, 37, 38, 39, 40, 41, 42, 43, 44, 45, 46, 47, 48, 49, 50, 51, 52, 53, 54, 55, 56, 57, 58, 59, 60, 61, 62, 63, 64, 65, 66, 67, 68, 69, 70, 71, 72, 73, 74, 75, 76, 77, 78, 79] rfl rfl rfl rfl (by decide) rfl hl.1 rfl (Nat.le_of_ble_eq_true rfl) ⟨(Nat.le_of_ble_eq_true rfl), (Nat.le_of_ble_eq_true rfl)⟩ ⟨(Nat.le_of_ble_eq_true rfl), (Nat.le_of_ble_eq_true rfl)⟩ dX10_init_166 (fun  u9 H locs hp9 hw => ?_)
  obtain ⟨is_84, isslideNames_85, ispictures_86, isheats_87, isafter_88, ishearerNames_89, isneeds_90, islikes_91, ishates_92, isnear_93, ia_94, iapictures_95, iashown_96, iasighed_97, ir_98, irkeys_99, irsigns_100, irnumbers_101, irstack_102, rfl⟩ := hp9
  have hw : Wd G s A [(qx, .inr (9, [.ref q1, .ref q5, .ref q15, .ref q25, .ref q29, .ref q33, .ref q41, .ref q46, .ref q51, .ref q56, .ref q59, .ref q61, .ref q62, .int 0, .int 0, .int (-1), .int (-1)])), (q1, .inr (8, [.ref kc_2, .ref bys_3, .int 0, .int 0, .int 0, .int 0, .int 0, .int 0, .long 0, .int 0, .int 0, .int 0])), (kc_2, eJ G 27 fkc_4), (bys_3, eB G 940 (fun _ => 0)), (q5, .inr (4, [.int 0, .int 0, .int 0, .int 0, .int 1, .int 0, .int 40, .int 0, .int 0, .ref sslideNames_6, .ref spictures_7, .ref sheats_8, .ref safter_9, .ref shearerNames_10, .ref sneeds_11, .ref slikes_12, .ref shates_13, .ref snear_14])), (sslideNames_6, eJ G 6 (fun _ => 0)), (spictures_7, eI G 6 (fun _ => 0)), (sheats_8, eI G 6 (fun _ => 0)), (safter_9, eI G 6 (fun _ => 0)), (shearerNames_10, eJ G 8 (fun _ => 0)), (sneeds_11, eI G 8 (fun _ => 0)), (slikes_12, eI G 8 (fun _ => 0)), (shates_13, eI G 8 (fun _ => 0)), (snear_14, eI G 8 (fun _ => 0)), (q15, .inr (4, [.int 0, .int 0, .int 0, .int 0, .int 1, .int 0, .int 40, .int 0, .int 0, .ref sslideNames_16, .ref spictures_17, .ref sheats_18, .ref safter_19, .ref shearerNames_20, .ref sneeds_21, .ref slikes_22, .ref shates_23, .ref snear_24])), (sslideNames_16, eJ G 6 (fun _ => 0)), (spictures_17, eI G 6 (fun _ => 0)), (sheats_18, eI G 6 (fun _ => 0)), (safter_19, eI G 6 (fun _ => 0)), (shearerNames_20, eJ G 8 (fun _ => 0)), (sneeds_21, eI G 8 (fun _ => 0)), (slikes_22, eI G 8 (fun _ => 0)), (shates_23, eI G 8 (fun _ => 0)), (snear_24, eI G 8 (fun _ => 0)), (q25, .inr (7, [.int 0, .int 0, .int 0, .int 0, .int 0, .int 0, .int 0, .int 0, .ref apictures_26, .ref ashown_27, .ref asighed_28])), (apictures_26, eI G 6 (fun _ => 0)), (ashown_27, eI G 6 (fun _ => 0)), (asighed_28, eI G 8 (fun _ => 0)), (q29, .inr (7, [.int 0, .int 0, .int 0, .int 0, .int 0, .int 0, .int 0, .int 0, .ref apictures_30, .ref ashown_31, .ref asighed_32])), (apictures_30, eI G 6 (fun _ => 0)), (ashown_31, eI G 6 (fun _ => 0)), (asighed_32, eI G 8 (fun _ => 0)), (q33, .inr (2, [.ref hk_34, .int 0, .int 0])), (hk_34, eSt G 8 hf_35), (hs_36, .inr (7, [.int 0, .int 0, .int 0, .int 0, .int 0, .int 0, .int 0, .int 0, .ref hpictures_37, .ref hshown_38, .ref hsighed_39])), (hpictures_37, eI G 6 (fun _ => 0)), (hshown_38, eI G 6 (fun _ => 0)), (hsighed_39, eI G 8 (fun _ => 0)), (q41, .inr (6, [.int 0, .int 0, .int 0, .ref rkeys_42, .ref rsigns_43, .ref rnumbers_44, .ref rstack_45])), (rkeys_42, eI G 40 (fun _ => 0)), (rsigns_43, eI G 40 (fun _ => 0)), (rnumbers_44, eI G 40 (fun _ => 0)), (rstack_45, eI G 40 (fun _ => 0)), (q46, .inr (6, [.int 0, .int 0, .int 0, .ref rkeys_47, .ref rsigns_48, .ref rnumbers_49, .ref rstack_50])), (rkeys_47, eI G 40 (fun _ => 0)), (rsigns_48, eI G 40 (fun _ => 0)), (rnumbers_49, eI G 40 (fun _ => 0)), (rstack_50, eI G 40 (fun _ => 0)), (q51, .inr (1, [.ref pkeys_52, .ref pwhos_53, .ref pfirsts_54, .ref pseconds_55, .int 0, .int 0])), (pkeys_52, eI G 40 (fun _ => 0)), (pwhos_53, eI G 40 (fun _ => 0)), (pfirsts_54, eI G 40 (fun _ => 0)), (pseconds_55, eI G 40 (fun _ => 0)), (q56, .inr (5, [.ref fbestPath_57, .int 0, .int 0, .ref fpath_58, .int 0, .int 0, .int 0])), (fbestPath_57, eI G 6 (fun _ => 0)), (fpath_58, eI G 6 (fun _ => 0)), (q59, .inr (0, [.ref nletters_60, .int 0])), (nletters_60, eC G 40 (fun _ => 0)), (q61, eIm G 2 (va_up (fun _ => none) 0 (some q63))), (q62, eI G 4 (fun _ => 0)), (q63, .inr (3, [.int 0, .ref is_64, .ref ia_74, .ref ir_78])), (is_64, .inr (4, [.int 0, .int 0, .int 0, .int 0, .int 1, .int 0, .int 40, .int 0, .int 0, .ref isslideNames_65, .ref ispictures_66, .ref isheats_67, .ref isafter_68, .ref ishearerNames_69, .ref isneeds_70, .ref islikes_71, .ref ishates_72, .ref isnear_73])), (isslideNames_65, eJ G 6 (fun _ => 0)), (ispictures_66, eI G 6 (fun _ => 0)), (isheats_67, eI G 6 (fun _ => 0)), (isafter_68, eI G 6 (fun _ => 0)), (ishearerNames_69, eJ G 8 (fun _ => 0)), (isneeds_70, eI G 8 (fun _ => 0)), (islikes_71, eI G 8 (fun _ => 0)), (ishates_72, eI G 8 (fun _ => 0)), (isnear_73, eI G 8 (fun _ => 0)), (ia_74, .inr (7, [.int 0, .int 0, .int 0, .int 0, .int 0, .int 0, .int 0, .int 0, .ref iapictures_75, .ref iashown_76, .ref iasighed_77])), (iapictures_75, eI G 6 (fun _ => 0)), (iashown_76, eI G 6 (fun _ => 0)), (iasighed_77, eI G 8 (fun _ => 0)), (ir_78, .inr (6, [.int 0, .int 0, .int 0, .ref irkeys_79, .ref irsigns_80, .ref irnumbers_81, .ref irstack_82])), (irkeys_79, eI G 40 (fun _ => 0)), (irsigns_80, eI G 40 (fun _ => 0)), (irnumbers_81, eI G 40 (fun _ => 0)), (irstack_82, eI G 40 (fun _ => 0)), (q83, .inr (3, [.int 0, .ref is_84, .ref ia_94, .ref ir_98])), (is_84, .inr (4, [.int 0, .int 0, .int 0, .int 0, .int 1, .int 0, .int 40, .int 0, .int 0, .ref isslideNames_85, .ref ispictures_86, .ref isheats_87, .ref isafter_88, .ref ishearerNames_89, .ref isneeds_90, .ref islikes_91, .ref ishates_92, .ref isnear_93])), (isslideNames_85, eJ G 6 (fun _ => 0)), (ispictures_86, eI G 6 (fun _ => 0)), (isheats_87, eI G 6 (fun _ => 0)), (isafter_88, eI G 6 (fun _ => 0)), (ishearerNames_89, eJ G 8 (fun _ => 0)), (isneeds_90, eI G 8 (fun _ => 0)), (islikes_91, eI G 8 (fun _ => 0)), (ishates_92, eI G 8 (fun _ => 0)), (isnear_93, eI G 8 (fun _ => 0)), (ia_94, .inr (7, [.int 0, .int 0, .int 0, .int 0, .int 0, .int 0, .int 0, .int 0, .ref iapictures_95, .ref iashown_96, .ref iasighed_97])), (iapictures_95, eI G 6 (fun _ => 0)), (iashown_96, eI G 6 (fun _ => 0)), (iasighed_97, eI G 8 (fun _ => 0)), (ir_98, .inr (6, [.int 0, .int 0, .int 0, .ref irkeys_99, .ref irsigns_100, .ref irnumbers_101, .ref irstack_102])), (irkeys_99, eI G 40 (fun _ => 0)), (irsigns_100, eI G 40 (fun _ => 0)), (irnumbers_101, eI G 40 (fun _ => 0)), (irstack_102, eI G 40 (fun _ => 0))] H _ := hw
  refine W.widen (k := 127) (n := 2599) (Nat.le_of_ble_eq_true rfl) (Nat.le_of_ble_eq_true rfl) ?_
  refine x_astIm (f' := (va_up (va_up (fun _ => none) 0 (some q63)) 1 (some q83))) (w' := [(qx, .inr (9, [.ref q1, .ref q5, .ref q15, .ref q25, .ref q29, .ref q33, .ref q41, .ref q46, .ref q51, .ref q56, .ref q59, .ref q61, .ref q62, .int 0, .int 0, .int (-1), .int (-1)])), (q1, .inr (8, [.ref kc_2, .ref bys_3, .int 0, .int 0, .int 0, .int 0, .int 0, .int 0, .long 0, .int 0, .int 0, .int 0])), (kc_2, eJ G 27 fkc_4), (bys_3, eB G 940 (fun _ => 0)), (q5, .inr (4, [.int 0, .int 0, .int 0, .int 0, .int 1, .int 0, .int 40, .int 0, .int 0, .ref sslideNames_6, .ref spictures_7, .ref sheats_8, .ref safter_9, .ref shearerNames_10, .ref sneeds_11, .ref slikes_12, .ref shates_13, .ref snear_14])), (sslideNames_6, eJ G 6 (fun _ => 0)), (spictures_7, eI G 6 (fun _ => 0)), (sheats_8, eI G 6 (fun _ => 0)), (safter_9, eI G 6 (fun _ => 0)), (shearerNames_10, eJ G 8 (fun _ => 0)), (sneeds_11, eI G 8 (fun _ => 0)), (slikes_12, eI G 8 (fun _ => 0)), (shates_13, eI G 8 (fun _ => 0)), (snear_14, eI G 8 (fun _ => 0)), (q15, .inr (4, [.int 0, .int 0, .int 0, .int 0, .int 1, .int 0, .int 40, .int 0, .int 0, .ref sslideNames_16, .ref spictures_17, .ref sheats_18, .ref safter_19, .ref shearerNames_20, .ref sneeds_21, .ref slikes_22, .ref shates_23, .ref snear_24])), (sslideNames_16, eJ G 6 (fun _ => 0)), (spictures_17, eI G 6 (fun _ => 0)), (sheats_18, eI G 6 (fun _ => 0)), (safter_19, eI G 6 (fun _ => 0)), (shearerNames_20, eJ G 8 (fun _ => 0)), (sneeds_21, eI G 8 (fun _ => 0)), (slikes_22, eI G 8 (fun _ => 0)), (shates_23, eI G 8 (fun _ => 0)), (snear_24, eI G 8 (fun _ => 0)), (q25, .inr (7, [.int 0, .int 0, .int 0, .int 0, .int 0, .int 0, .int 0, .int 0, .ref apictures_26, .ref ashown_27, .ref asighed_28])), (apictures_26, eI G 6 (fun _ => 0)), (ashown_27, eI G 6 (fun _ => 0)), (asighed_28, eI G 8 (fun _ => 0)), (q29, .inr (7, [.int 0, .int 0, .int 0, .int 0, .int 0, .int 0, .int 0, .int 0, .ref apictures_30, .ref ashown_31, .ref asighed_32])), (apictures_30, eI G 6 (fun _ => 0)), (ashown_31, eI G 6 (fun _ => 0)), (asighed_32, eI G 8 (fun _ => 0)), (q33, .inr (2, [.ref hk_34, .int 0, .int 0])), (hk_34, eSt G 8 hf_35), (hs_36, .inr (7, [.int 0, .int 0, .int 0, .int 0, .int 0, .int 0, .int 0, .int 0, .ref hpictures_37, .ref hshown_38, .ref hsighed_39])), (hpictures_37, eI G 6 (fun _ => 0)), (hshown_38, eI G 6 (fun _ => 0)), (hsighed_39, eI G 8 (fun _ => 0)), (q41, .inr (6, [.int 0, .int 0, .int 0, .ref rkeys_42, .ref rsigns_43, .ref rnumbers_44, .ref rstack_45])), (rkeys_42, eI G 40 (fun _ => 0)), (rsigns_43, eI G 40 (fun _ => 0)), (rnumbers_44, eI G 40 (fun _ => 0)), (rstack_45, eI G 40 (fun _ => 0)), (q46, .inr (6, [.int 0, .int 0, .int 0, .ref rkeys_47, .ref rsigns_48, .ref rnumbers_49, .ref rstack_50])), (rkeys_47, eI G 40 (fun _ => 0)), (rsigns_48, eI G 40 (fun _ => 0)), (rnumbers_49, eI G 40 (fun _ => 0)), (rstack_50, eI G 40 (fun _ => 0)), (q51, .inr (1, [.ref pkeys_52, .ref pwhos_53, .ref pfirsts_54, .ref pseconds_55, .int 0, .int 0])), (pkeys_52, eI G 40 (fun _ => 0)), (pwhos_53, eI G 40 (fun _ => 0)), (pfirsts_54, eI G 40 (fun _ => 0)), (pseconds_55, eI G 40 (fun _ => 0)), (q56, .inr (5, [.ref fbestPath_57, .int 0, .int 0, .ref fpath_58, .int 0, .int 0, .int 0])), (fbestPath_57, eI G 6 (fun _ => 0)), (fpath_58, eI G 6 (fun _ => 0)), (q59, .inr (0, [.ref nletters_60, .int 0])), (nletters_60, eC G 40 (fun _ => 0)), (q61, eIm G 2 (va_up (va_up (fun _ => none) 0 (some q63)) 1 (some q83))), (q62, eI G 4 (fun _ => 0)), (q63, .inr (3, [.int 0, .ref is_64, .ref ia_74, .ref ir_78])), (is_64, .inr (4, [.int 0, .int 0, .int 0, .int 0, .int 1, .int 0, .int 40, .int 0, .int 0, .ref isslideNames_65, .ref ispictures_66, .ref isheats_67, .ref isafter_68, .ref ishearerNames_69, .ref isneeds_70, .ref islikes_71, .ref ishates_72, .ref isnear_73])), (isslideNames_65, eJ G 6 (fun _ => 0)), (ispictures_66, eI G 6 (fun _ => 0)), (isheats_67, eI G 6 (fun _ => 0)), (isafter_68, eI G 6 (fun _ => 0)), (ishearerNames_69, eJ G 8 (fun _ => 0)), (isneeds_70, eI G 8 (fun _ => 0)), (islikes_71, eI G 8 (fun _ => 0)), (ishates_72, eI G 8 (fun _ => 0)), (isnear_73, eI G 8 (fun _ => 0)), (ia_74, .inr (7, [.int 0, .int 0, .int 0, .int 0, .int 0, .int 0, .int 0, .int 0, .ref iapictures_75, .ref iashown_76, .ref iasighed_77])), (iapictures_75, eI G 6 (fun _ => 0)), (iashown_76, eI G 6 (fun _ => 0)), (iasighed_77, eI G 8 (fun _ => 0)), (ir_78, .inr (6, [.int 0, .int 0, .int 0, .ref irkeys_79, .ref irsigns_80, .ref irnumbers_81, .ref irstack_82])), (irkeys_79, eI G 40 (fun _ => 0)), (irsigns_80, eI G 40 (fun _ => 0)), (irnumbers_81, eI G 40 (fun _ => 0)), (irstack_82, eI G 40 (fun _ => 0)), (q83, .inr (3, [.int 0, .ref is_84, .ref ia_94, .ref ir_98])), (is_84, .inr (4, [.int 0, .int 0, .int 0, .int 0, .int 1, .int 0, .int 40, .int 0, .int 0, .ref isslideNames_85, .ref ispictures_86, .ref isheats_87, .ref isafter_88, .ref ishearerNames_89, .ref isneeds_90, .ref islikes_91, .ref ishates_92, .ref isnear_93])), (isslideNames_85, eJ G 6 (fun _ => 0)), (ispictures_86, eI G 6 (fun _ => 0)), (isheats_87, eI G 6 (fun _ => 0)), (isafter_88, eI G 6 (fun _ => 0)), (ishearerNames_89, eJ G 8 (fun _ => 0)), (isneeds_90, eI G 8 (fun _ => 0)), (islikes_91, eI G 8 (fun _ => 0)), (ishates_92, eI G 8 (fun _ => 0)), (isnear_93, eI G 8 (fun _ => 0)), (ia_94, .inr (7, [.int 0, .int 0, .int 0, .int 0, .int 0, .int 0, .int 0, .int 0, .ref iapictures_95, .ref iashown_96, .ref iasighed_97])), (iapictures_95, eI G 6 (fun _ => 0)), (iashown_96, eI G 6 (fun _ => 0)), (iasighed_97, eI G 8 (fun _ => 0)), (ir_98, .inr (6, [.int 0, .int 0, .int 0, .ref irkeys_99, .ref irsigns_100, .ref irnumbers_101, .ref irstack_102])), (irkeys_99, eI G 40 (fun _ => 0)), (irsigns_100, eI G 40 (fun _ => 0)), (irnumbers_101, eI G 40 (fun _ => 0)), (irstack_102, eI G 40 (fun _ => 0))]) C hw 58 80 rfl rfl (x_in rfl) rfl rfl dX10_init_169 (fun H locs hw => ?_)
  refine lv_iinc (v := 2) (lv' := [(1, .int 2), (0, .ref qx)]) C.1 C.2.1 dX10_init_170 hl (k := 0) rfl (by decide) (by decide) rfl (fun ls hl => ?_)
  refine lv_goto (tgt := 152) C.1 C.2.1 dX10_init_173 (by decide) ?_
  refine lv_iload_n C.1 C.2.1 dX10_init_152 rfl (lv_at hl 0 rfl) ?_
  refine lv_iconst (v := 2) C.1 C.2.1 dX10_init_153 (by decide) ?_
  refine lv_icmp_ge (tgt := 176) C.1 C.2.1 dX10_init_154 (by decide) (fun _ => ?_) (fun h9 => absurd (by decide) h9)
  exact x_retv B hw ⟨q1, kc_2, bys_3, q5, sslideNames_6, spictures_7, sheats_8, safter_9, shearerNames_10, sneeds_11, slikes_12, shates_13, snear_14, q15, sslideNames_16, spictures_17, sheats_18, safter_19, shearerNames_20, sneeds_21, slikes_22, shates_23, snear_24, q25, apictures_26, ashown_27, asighed_28, q29, apictures_30, ashown_31, asighed_32, q33, hk_34, hs_36, hpictures_37, hshown_38, hsighed_39, q41, rkeys_42, rsigns_43, rnumbers_44, rstack_45, q46, rkeys_47, rsigns_48, rnumbers_49, rstack_50, q51, pkeys_52, pwhos_53, pfirsts_54, pseconds_55, q56, fbestPath_57, fpath_58, q59, nletters_60, q61, q62, q63, is_64, isslideNames_65, ispictures_66, isheats_67, isafter_68, ishearerNames_69, isneeds_70, islikes_71, ishates_72, isnear_73, ia_74, iapictures_75, iashown_76, iasighed_77, ir_78, irkeys_79, irsigns_80, irnumbers_81, irstack_82, q83, is_84, isslideNames_85, ispictures_86, isheats_87, isafter_88, ishearerNames_89, isneeds_90, islikes_91, ishates_92, isnear_93, ia_94, iapictures_95, iashown_96, iasighed_97, ir_98, irkeys_99, irsigns_100, irnumbers_101, irstack_102, fkc_4, hf_35, rfl, hf40⟩ (Nat.le_of_ble_eq_true rfl) (Nat.le_of_ble_eq_true rfl) dX10_init_176
end
section
def rd0 : Nat → Int32 := upd (upd (upd (upd (upd (upd (upd (upd (fun _ => 0) 18 (-1)) 19 (-1)) 20 (-1)) 21 (-1)) 22 (-1)) 23 (-1)) 3 1) 5 40
def nw0 : Nat → Int32 := va_cpy rd0 (fun _ => 0) 0 0 64
theorem dX11_startRead_0 : decode cX11_startRead 0 = .ok (.iconst 0, 1) := by decide +kernel
theorem dX11_startRead_1 : decode cX11_startRead 1 = .ok (.istore_n 1, 1) := by decide +kernel
theorem dX11_startRead_2 : decode cX11_startRead 2 = .ok (.iload_n 1, 1) := by decide +kernel
theorem dX11_startRead_3 : decode cX11_startRead 3 = .ok (.bipush 64, 2) := by decide +kernel
theorem dX11_startRead_5 : decode cX11_startRead 5 = .ok (.if_icmp .ge 16, 3) := by decide +kernel
theorem dX11_startRead_21 : decode cX11_startRead 21 = .ok (.iconst 0, 1) := by decide +kernel
theorem dX11_startRead_22 : decode cX11_startRead 22 = .ok (.istore_n 1, 1) := by decide +kernel
theorem dX11_startRead_23 : decode cX11_startRead 23 = .ok (.iload_n 1, 1) := by decide +kernel
theorem dX11_startRead_24 : decode cX11_startRead 24 = .ok (.iconst 3, 1) := by decide +kernel
theorem dX11_startRead_25 : decode cX11_startRead 25 = .ok (.if_icmp .ge 16, 3) := by decide +kernel
theorem dX11_startRead_28 : decode cX11_startRead 28 = .ok (.aload_n 0, 1) := by decide +kernel
theorem dX11_startRead_29 : decode cX11_startRead 29 = .ok (.getfield 127, 3) := by decide +kernel
theorem dX11_startRead_32 : decode cX11_startRead 32 = .ok (.iload_n 1, 1) := by decide +kernel
theorem dX11_startRead_33 : decode cX11_startRead 33 = .ok (.iconst 0, 1) := by decide +kernel
theorem dX11_startRead_34 : decode cX11_startRead 34 = .ok (.bastore, 1) := by decide +kernel
theorem dX11_startRead_35 : decode cX11_startRead 35 = .ok (.iinc 1 1, 3) := by decide +kernel
theorem dX11_startRead_38 : decode cX11_startRead 38 = .ok (.goto (-15), 3) := by decide +kernel
theorem dX11_startRead_41 : decode cX11_startRead 41 = .ok (.iconst 0, 1) := by decide +kernel
theorem dX11_startRead_42 : decode cX11_startRead 42 = .ok (.istore_n 1, 1) := by decide +kernel
theorem dX11_startRead_43 : decode cX11_startRead 43 = .ok (.iload_n 1, 1) := by decide +kernel
theorem dX11_startRead_44 : decode cX11_startRead 44 = .ok (.bipush 6, 2) := by decide +kernel
theorem dX11_startRead_46 : decode cX11_startRead 46 = .ok (.if_icmp .ge 19, 3) := by decide +kernel
theorem dX11_startRead_49 : decode cX11_startRead 49 = .ok (.aload_n 0, 1) := by decide +kernel
theorem dX11_startRead_50 : decode cX11_startRead 50 = .ok (.getfield 101, 3) := by decide +kernel
theorem dX11_startRead_53 : decode cX11_startRead 53 = .ok (.bipush 18, 2) := by decide +kernel
theorem dX11_startRead_55 : decode cX11_startRead 55 = .ok (.iload_n 1, 1) := by decide +kernel
theorem dX11_startRead_56 : decode cX11_startRead 56 = .ok (.iadd, 1) := by decide +kernel
theorem dX11_startRead_57 : decode cX11_startRead 57 = .ok (.iconst (-1), 1) := by decide +kernel
theorem dX11_startRead_58 : decode cX11_startRead 58 = .ok (.iastore, 1) := by decide +kernel
theorem dX11_startRead_59 : decode cX11_startRead 59 = .ok (.iinc 1 1, 3) := by decide +kernel
theorem dX11_startRead_62 : decode cX11_startRead 62 = .ok (.goto (-19), 3) := by decide +kernel
theorem dX11_startRead_65 : decode cX11_startRead 65 = .ok (.aload_n 0, 1) := by decide +kernel
theorem dX11_startRead_66 : decode cX11_startRead 66 = .ok (.getfield 101, 3) := by decide +kernel
theorem dX11_startRead_69 : decode cX11_startRead 69 = .ok (.iconst 3, 1) := by decide +kernel
theorem dX11_startRead_70 : decode cX11_startRead 70 = .ok (.iconst 1, 1) := by decide +kernel
theorem dX11_startRead_71 : decode cX11_startRead 71 = .ok (.iastore, 1) := by decide +kernel
theorem dX11_startRead_72 : decode cX11_startRead 72 = .ok (.aload_n 0, 1) := by decide +kernel
theorem dX11_startRead_73 : decode cX11_startRead 73 = .ok (.getfield 101, 3) := by decide +kernel
theorem dX11_startRead_76 : decode cX11_startRead 76 = .ok (.iconst 5, 1) := by decide +kernel
theorem dX11_startRead_77 : decode cX11_startRead 77 = .ok (.bipush 40, 2) := by decide +kernel
theorem dX11_startRead_79 : decode cX11_startRead 79 = .ok (.iastore, 1) := by decide +kernel
theorem dX11_startRead_80 : decode cX11_startRead 80 = .ok (.return_, 1) := by decide +kernel
theorem dX11_startRead_8 : decode cX11_startRead 8 = .ok (.aload_n 0, 1) := by decide +kernel
theorem dX11_startRead_9 : decode cX11_startRead 9 = .ok (.getfield 101, 3) := by decide +kernel
theorem dX11_startRead_12 : decode cX11_startRead 12 = .ok (.iload_n 1, 1) := by decide +kernel
theorem dX11_startRead_13 : decode cX11_startRead 13 = .ok (.iconst 0, 1) := by decide +kernel
theorem dX11_startRead_14 : decode cX11_startRead 14 = .ok (.iastore, 1) := by decide +kernel
theorem dX11_startRead_15 : decode cX11_startRead 15 = .ok (.iinc 1 1, 3) := by decide +kernel
theorem dX11_startRead_18 : decode cX11_startRead 18 = .ok (.goto (-16), 3) := by decide +kernel
-- startRead on a new object
set_option maxHeartbeats 4000000 in
set_option maxRecDepth 100000 in
theorem c_X11_startRead0 {l : Launch} {G : Gc} (qm : Nat) (mtape : Nat) (mnow : Nat) (mread : Nat) (mkept : Nat) (msnaps : Nat) (maside : Nat) (mname : Nat) (mreadName : Nat) (mkeptName : Nat) (misKept : Nat) (monces : Nat) (morder : Nat) (mordered : Nat) (mtext : Nat) (mline : Nat) (mwritten : Nat) (mnode : Nat)  : Cv l yX11_startRead cX11_startRead 2 0 0 0 G [.ref qm] [(qm, .inr (10, [.int 0, .ref mtape, .int 0, .int 0, .int 0, .int 0, .int 0, .int 0, .int 0, .int 0, .int 0, .int 0, .long 0, .int 0, .ref mnow, .ref mread, .ref mkept, .ref msnaps, .ref maside, .ref mname, .ref mreadName, .ref mkeptName, .ref misKept, .ref monces, .int 0, .ref morder, .ref mordered, .int 0, .int 0, .int 0, .int (-1), .int (-1), .ref mtext, .int 0, .int 0, .ref mline, .ref mwritten, .int 0, .int 0, .ref mnode, .int 0, .int 0, .int 0, .int 0])), (mread, eI G 64 (fun _ => 0)), (monces, eZ G 3 (fun _ => 0))] (fun (u9 : va_W) => u9 = [(qm, .inr (10, [.int 0, .ref mtape, .int 0, .int 0, .int 0, .int 0, .int 0, .int 0, .int 0, .int 0, .int 0, .int 0, .long 0, .int 0, .ref mnow, .ref mread, .ref mkept, .ref msnaps, .ref maside, .ref mname, .ref mreadName, .ref mkeptName, .ref misKept, .ref monces, .int 0, .ref morder, .ref mordered, .int 0, .int 0, .int 0, .int (-1), .int (-1), .ref mtext, .int 0, .int 0, .ref mline, .ref mwritten, .int 0, .int 0, .ref mnode, .int 0, .int 0, .int 0, .int 0])), (mread, eI G 64 rd0), (monces, eZ G 3 (fun _ => 0))]) := by
  refine Cv.of (by decide) (Nat.le_of_ble_eq_true rfl) ?_
  intro p e s m below meth c ls A B hw hl
  have C : CallFix p m c cX11_startRead 2 s _ gw "LanternStateModel" := B.1
  have hl : lv_has ls 2 [(0, .ref qm)] := hl
  refine lv_iconst (v := 0) C.1 C.2.1 dX11_startRead_0 (by decide) ?_
  refine lv_istore_n (lv' := [(1, .int 0), (0, .ref qm)]) C.1 C.2.1 dX11_startRead_1 rfl hl (by decide) rfl (fun ls hl => ?_)
  have loop2 : ∀ (n9 : Nat) (k9 : Nat), 64 - k9 < n9 → k9 ≤ 64 → ∀ (H : Heap) (locs : List Loc) (ls : Array Slot), Wd G s A [(qm, .inr (10, [.int 0, .ref mtape, .int 0, .int 0, .int 0, .int 0, .int 0, .int 0, .int 0, .int 0, .int 0, .int 0, .long 0, .int 0, .ref mnow, .ref mread, .ref mkept, .ref msnaps, .ref maside, .ref mname, .ref mreadName, .ref mkeptName, .ref misKept, .ref monces, .int 0, .ref morder, .ref mordered, .int 0, .int 0, .int 0, .int (-1), .int (-1), .ref mtext, .int 0, .int 0, .ref mline, .ref mwritten, .int 0, .int 0, .ref mnode, .int 0, .int 0, .int 0, .int 0])), (mread, eI G 64 (fun _ => 0)), (monces, eZ G 3 (fun _ => 0))] H locs → lv_has ls 2 [(1, .int (nI k9)), (0, .ref qm)] → W p l e (rmD 0 0 0) s m [.ref qm].toArray below meth c H locs 0 0 (MQ below (va_Qv (fun (u9 : va_W) => u9 = [(qm, .inr (10, [.int 0, .ref mtape, .int 0, .int 0, .int 0, .int 0, .int 0, .int 0, .int 0, .int 0, .int 0, .int 0, .long 0, .int 0, .ref mnow, .ref mread, .ref mkept, .ref msnaps, .ref maside, .ref mname, .ref mreadName, .ref mkeptName, .ref misKept, .ref monces, .int 0, .ref morder, .ref mordered, .int 0, .int 0, .int 0, .int (-1), .int (-1), .ref mtext, .int 0, .int 0, .ref mline, .ref mwritten, .int 0, .int 0, .ref mnode, .int 0, .int 0, .int 0, .int 0])), (mread, eI G 64 rd0), (monces, eZ G 3 (fun _ => 0))]) (mB G A) A) [.ref qm].toArray s 0 0 A) (F0 m 2 ls []) := by
    intro n9
    induction n9 with
    | zero => intro k9 h9; exact absurd h9 (Nat.not_lt_zero _)
    | succ n9 ih =>
      intro k9 h9 hi2 H locs ls hw hl
      refine lv_iload_n C.1 C.2.1 dX11_startRead_2 rfl (lv_at hl 0 rfl) ?_
      refine lv_bipush (v := 64) C.1 C.2.1 dX11_startRead_3 (by decide) ?_
      refine lv_icmp_ge (tgt := 21) C.1 C.2.1 dX11_startRead_5 (by decide) (fun c_5 => ?_) (fun c_5 => ?_)
      · skip
        refine lv_iconst (v := 0) C.1 C.2.1 dX11_startRead_21 (by decide) ?_
        refine lv_istore_n (lv' := [(1, .int 0), (0, .ref qm)]) C.1 C.2.1 dX11_startRead_22 rfl hl (by decide) rfl (fun ls hl => ?_)
        refine lv_iload_n C.1 C.2.1 dX11_startRead_23 rfl (lv_at hl 0 rfl) ?_
        refine lv_iconst (v := 3) C.1 C.2.1 dX11_startRead_24 (by decide) ?_
        refine lv_icmp_ge (tgt := 41) C.1 C.2.1 dX11_startRead_25 (by decide) (fun h9 => absurd h9 (by decide)) (fun _ => ?_)
        refine lv_aload_n C.1 C.2.1 dX11_startRead_28 rfl (lv_at hl 1 rfl) ?_
        refine x_get C hw iwX11 10 rfl 0 rfl 23 (by decide) kw1220 rfl dX11_startRead_29 ?_
        refine lv_iload_n C.1 C.2.1 dX11_startRead_32 rfl (lv_at hl 0 rfl) ?_
        refine lv_iconst (v := 0) C.1 C.2.1 dX11_startRead_33 (by decide) ?_
        refine x_zast (f' := (fun _ => 0)) (w' := [(qm, .inr (10, [.int 0, .ref mtape, .int 0, .int 0, .int 0, .int 0, .int 0, .int 0, .int 0, .int 0, .int 0, .int 0, .long 0, .int 0, .ref mnow, .ref mread, .ref mkept, .ref msnaps, .ref maside, .ref mname, .ref mreadName, .ref mkeptName, .ref misKept, .ref monces, .int 0, .ref morder, .ref mordered, .int 0, .int 0, .int 0, .int (-1), .int (-1), .ref mtext, .int 0, .int 0, .ref mline, .ref mwritten, .int 0, .int 0, .ref mnode, .int 0, .int 0, .int 0, .int 0])), (mread, eI G 64 (fun _ => 0)), (monces, eZ G 3 (fun _ => 0))]) C hw 2 rfl (x_in rfl) (x_updC 0 _) rfl dX11_startRead_34 (fun H locs hw => ?_)
        refine lv_iinc (v := 1) (lv' := [(1, .int 1), (0, .ref qm)]) C.1 C.2.1 dX11_startRead_35 hl (k := 0) rfl (by decide) (by decide) rfl (fun ls hl => ?_)
        refine lv_goto (tgt := 23) C.1 C.2.1 dX11_startRead_38 (by decide) ?_
        refine lv_iload_n C.1 C.2.1 dX11_startRead_23 rfl (lv_at hl 0 rfl) ?_
        refine lv_iconst (v := 3) C.1 C.2.1 dX11_startRead_24 (by decide) ?_
        refine lv_icmp_ge (tgt := 41) C.1 C.2.1 dX11_startRead_25 (by decide) (fun h9 => absurd h9 (by decide)) (fun _ => ?_)
        refine lv_aload_n C.1 C.2.1 dX11_startRead_28 rfl (lv_at hl 1 rfl) ?_
        refine x_get C hw iwX11 10 rfl 0 rfl 23 (by decide) kw1220 rfl dX11_startRead_29 ?_
        refine lv_iload_n C.1 C.2.1 dX11_startRead_32 rfl (lv_at hl 0 rfl) ?_
        refine lv_iconst (v := 0) C.1 C.2.1 dX11_startRead_33 (by decide) ?_
        refine x_zast (f' := (fun _ => 0)) (w' := [(qm, .inr (10, [.int 0, .ref mtape, .int 0, .int 0, .int 0, .int 0, .int 0, .int 0, .int 0, .int 0, .int 0, .int 0, .long 0, .int 0, .ref mnow, .ref mread, .ref mkept, .ref msnaps, .ref maside, .ref mname, .ref mreadName, .ref mkeptName, .ref misKept, .ref monces, .int 0, .ref morder, .ref mordered, .int 0, .int 0, .int 0, .int (-1), .int (-1), .ref mtext, .int 0, .int 0, .ref mline, .ref mwritten, .int 0, .int 0, .ref mnode, .int 0, .int 0, .int 0, .int 0])), (mread, eI G 64 (fun _ => 0)), (monces, eZ G 3 (fun _ => 0))]) C hw 2 rfl (x_in rfl) (x_updC 0 _) rfl dX11_startRead_34 (fun H locs hw => ?_)
        refine lv_iinc (v := 2) (lv' := [(1, .int 2), (0, .ref qm)]) C.1 C.2.1 dX11_startRead_35 hl (k := 0) rfl (by decide) (by decide) rfl (fun ls hl => ?_)
        refine lv_goto (tgt := 23) C.1 C.2.1 dX11_startRead_38 (by decide) ?_
        refine lv_iload_n C.1 C.2.1 dX11_startRead_23 rfl (lv_at hl 0 rfl) ?_
        refine lv_iconst (v := 3) C.1 C.2.1 dX11_startRead_24 (by decide) ?_
        refine lv_icmp_ge (tgt := 41) C.1 C.2.1 dX11_startRead_25 (by decide) (fun h9 => absurd h9 (by decide)) (fun _ => ?_)
        refine lv_aload_n C.1 C.2.1 dX11_startRead_28 rfl (lv_at hl 1 rfl) ?_
        refine x_get C hw iwX11 10 rfl 0 rfl 23 (by decide) kw1220 rfl dX11_startRead_29 ?_
        refine lv_iload_n C.1 C.2.1 dX11_startRead_32 rfl (lv_at hl 0 rfl) ?_
        refine lv_iconst (v := 0) C.1 C.2.1 dX11_startRead_33 (by decide) ?_
        refine x_zast (f' := (fun _ => 0)) (w' := [(qm, .inr (10, [.int 0, .ref mtape, .int 0, .int 0, .int 0, .int 0, .int 0, .int 0, .int 0, .int 0, .int 0, .int 0, .long 0, .int 0, .ref mnow, .ref mread, .ref mkept, .ref msnaps, .ref maside, .ref mname, .ref mreadName, .ref mkeptName, .ref misKept, .ref monces, .int 0, .ref morder, .ref mordered, .int 0, .int 0, .int 0, .int (-1), .int (-1), .ref mtext, .int 0, .int 0, .ref mline, .ref mwritten, .int 0, .int 0, .ref mnode, .int 0, .int 0, .int 0, .int 0])), (mread, eI G 64 (fun _ => 0)), (monces, eZ G 3 (fun _ => 0))]) C hw 2 rfl (x_in rfl) (x_updC 0 _) rfl dX11_startRead_34 (fun H locs hw => ?_)
        refine lv_iinc (v := 3) (lv' := [(1, .int 3), (0, .ref qm)]) C.1 C.2.1 dX11_startRead_35 hl (k := 0) rfl (by decide) (by decide) rfl (fun ls hl => ?_)
        refine lv_goto (tgt := 23) C.1 C.2.1 dX11_startRead_38 (by decide) ?_
        refine lv_iload_n C.1 C.2.1 dX11_startRead_23 rfl (lv_at hl 0 rfl) ?_
        refine lv_iconst (v := 3) C.1 C.2.1 dX11_startRead_24 (by decide) ?_
        refine lv_icmp_ge (tgt := 41) C.1 C.2.1 dX11_startRead_25 (by decide) (fun _ => ?_) (fun h9 => absurd (by decide) h9)
        refine lv_iconst (v := 0) C.1 C.2.1 dX11_startRead_41 (by decide) ?_
        refine lv_istore_n (lv' := [(1, .int 0), (0, .ref qm)]) C.1 C.2.1 dX11_startRead_42 rfl hl (by decide) rfl (fun ls hl => ?_)
        refine lv_iload_n C.1 C.2.1 dX11_startRead_43 rfl (lv_at hl 0 rfl) ?_
        refine lv_bipush (v := 6) C.1 C.2.1 dX11_startRead_44 (by decide) ?_
        refine lv_icmp_ge (tgt := 65) C.1 C.2.1 dX11_startRead_46 (by decide) (fun h9 => absurd h9 (by decide)) (fun _ => ?_)
        refine lv_aload_n C.1 C.2.1 dX11_startRead_49 rfl (lv_at hl 1 rfl) ?_
        refine x_get C hw iwX11 10 rfl 0 rfl 15 (by decide) kw1212 rfl dX11_startRead_50 ?_
        refine lv_bipush (v := 18) C.1 C.2.1 dX11_startRead_53 (by decide) ?_
        refine lv_iload_n C.1 C.2.1 dX11_startRead_55 rfl (lv_at hl 0 rfl) ?_
        refine lv_iadd C.1 C.2.1 dX11_startRead_56 ?_
        refine x_topi (z := 18) (by decide) ?_
        refine lv_iconst (v := (-1)) C.1 C.2.1 dX11_startRead_57 (by decide) ?_
        refine x_iast (f' := (upd (fun _ => 0) 18 (-1))) (w' := [(qm, .inr (10, [.int 0, .ref mtape, .int 0, .int 0, .int 0, .int 0, .int 0, .int 0, .int 0, .int 0, .int 0, .int 0, .long 0, .int 0, .ref mnow, .ref mread, .ref mkept, .ref msnaps, .ref maside, .ref mname, .ref mreadName, .ref mkeptName, .ref misKept, .ref monces, .int 0, .ref morder, .ref mordered, .int 0, .int 0, .int 0, .int (-1), .int (-1), .ref mtext, .int 0, .int 0, .ref mline, .ref mwritten, .int 0, .int 0, .ref mnode, .int 0, .int 0, .int 0, .int 0])), (mread, eI G 64 (upd (fun _ => 0) 18 (-1))), (monces, eZ G 3 (fun _ => 0))]) C hw 1 rfl (x_in rfl) rfl rfl dX11_startRead_58 (fun H locs hw => ?_)
        refine lv_iinc (v := 1) (lv' := [(1, .int 1), (0, .ref qm)]) C.1 C.2.1 dX11_startRead_59 hl (k := 0) rfl (by decide) (by decide) rfl (fun ls hl => ?_)
        refine lv_goto (tgt := 43) C.1 C.2.1 dX11_startRead_62 (by decide) ?_
        refine lv_iload_n C.1 C.2.1 dX11_startRead_43 rfl (lv_at hl 0 rfl) ?_
        refine lv_bipush (v := 6) C.1 C.2.1 dX11_startRead_44 (by decide) ?_
        refine lv_icmp_ge (tgt := 65) C.1 C.2.1 dX11_startRead_46 (by decide) (fun h9 => absurd h9 (by decide)) (fun _ => ?_)
        refine lv_aload_n C.1 C.2.1 dX11_startRead_49 rfl (lv_at hl 1 rfl) ?_
        refine x_get C hw iwX11 10 rfl 0 rfl 15 (by decide) kw1212 rfl dX11_startRead_50 ?_
        refine lv_bipush (v := 18) C.1 C.2.1 dX11_startRead_53 (by decide) ?_
        refine lv_iload_n C.1 C.2.1 dX11_startRead_55 rfl (lv_at hl 0 rfl) ?_
        refine lv_iadd C.1 C.2.1 dX11_startRead_56 ?_
        refine x_topi (z := 19) (by decide) ?_
        refine lv_iconst (v := (-1)) C.1 C.2.1 dX11_startRead_57 (by decide) ?_
        refine x_iast (f' := (upd (upd (fun _ => 0) 18 (-1)) 19 (-1))) (w' := [(qm, .inr (10, [.int 0, .ref mtape, .int 0, .int 0, .int 0, .int 0, .int 0, .int 0, .int 0, .int 0, .int 0, .int 0, .long 0, .int 0, .ref mnow, .ref mread, .ref mkept, .ref msnaps, .ref maside, .ref mname, .ref mreadName, .ref mkeptName, .ref misKept, .ref monces, .int 0, .ref morder, .ref mordered, .int 0, .int 0, .int 0, .int (-1), .int (-1), .ref mtext, .int 0, .int 0, .ref mline, .ref mwritten, .int 0, .int 0, .ref mnode, .int 0, .int 0, .int 0, .int 0])), (mread, eI G 64 (upd (upd (fun _ => 0) 18 (-1)) 19 (-1))), (monces, eZ G 3 (fun _ => 0))]) C hw 1 rfl (x_in rfl) rfl rfl dX11_startRead_58 (fun H locs hw => ?_)
        refine lv_iinc (v := 2) (lv' := [(1, .int 2), (0, .ref qm)]) C.1 C.2.1 dX11_startRead_59 hl (k := 0) rfl (by decide) (by decide) rfl (fun ls hl => ?_)
        refine lv_goto (tgt := 43) C.1 C.2.1 dX11_startRead_62 (by decide) ?_
        refine lv_iload_n C.1 C.2.1 dX11_startRead_43 rfl (lv_at hl 0 rfl) ?_
        refine lv_bipush (v := 6) C.1 C.2.1 dX11_startRead_44 (by decide) ?_
        refine lv_icmp_ge (tgt := 65) C.1 C.2.1 dX11_startRead_46 (by decide) (fun h9 => absurd h9 (by decide)) (fun _ => ?_)
        refine lv_aload_n C.1 C.2.1 dX11_startRead_49 rfl (lv_at hl 1 rfl) ?_
        refine x_get C hw iwX11 10 rfl 0 rfl 15 (by decide) kw1212 rfl dX11_startRead_50 ?_
        refine lv_bipush (v := 18) C.1 C.2.1 dX11_startRead_53 (by decide) ?_
        refine lv_iload_n C.1 C.2.1 dX11_startRead_55 rfl (lv_at hl 0 rfl) ?_
        refine lv_iadd C.1 C.2.1 dX11_startRead_56 ?_
        refine x_topi (z := 20) (by decide) ?_
        refine lv_iconst (v := (-1)) C.1 C.2.1 dX11_startRead_57 (by decide) ?_
        refine x_iast (f' := (upd (upd (upd (fun _ => 0) 18 (-1)) 19 (-1)) 20 (-1))) (w' := [(qm, .inr (10, [.int 0, .ref mtape, .int 0, .int 0, .int 0, .int 0, .int 0, .int 0, .int 0, .int 0, .int 0, .int 0, .long 0, .int 0, .ref mnow, .ref mread, .ref mkept, .ref msnaps, .ref maside, .ref mname, .ref mreadName, .ref mkeptName, .ref misKept, .ref monces, .int 0, .ref morder, .ref mordered, .int 0, .int 0, .int 0, .int (-1), .int (-1), .ref mtext, .int 0, .int 0, .ref mline, .ref mwritten, .int 0, .int 0, .ref mnode, .int 0, .int 0, .int 0, .int 0])), (mread, eI G 64 (upd (upd (upd (fun _ => 0) 18 (-1)) 19 (-1)) 20 (-1))), (monces, eZ G 3 (fun _ => 0))]) C hw 1 rfl (x_in rfl) rfl rfl dX11_startRead_58 (fun H locs hw => ?_)
        refine lv_iinc (v := 3) (lv' := [(1, .int 3), (0, .ref qm)]) C.1 C.2.1 dX11_startRead_59 hl (k := 0) rfl (by decide) (by decide) rfl (fun ls hl => ?_)
        refine lv_goto (tgt := 43) C.1 C.2.1 dX11_startRead_62 (by decide) ?_
        refine lv_iload_n C.1 C.2.1 dX11_startRead_43 rfl (lv_at hl 0 rfl) ?_
        refine lv_bipush (v := 6) C.1 C.2.1 dX11_startRead_44 (by decide) ?_
        refine lv_icmp_ge (tgt := 65) C.1 C.2.1 dX11_startRead_46 (by decide) (fun h9 => absurd h9 (by decide)) (fun _ => ?_)
        refine lv_aload_n C.1 C.2.1 dX11_startRead_49 rfl (lv_at hl 1 rfl) ?_
        refine x_get C hw iwX11 10 rfl 0 rfl 15 (by decide) kw1212 rfl dX11_startRead_50 ?_
        refine lv_bipush (v := 18) C.1 C.2.1 dX11_startRead_53 (by decide) ?_
        refine lv_iload_n C.1 C.2.1 dX11_startRead_55 rfl (lv_at hl 0 rfl) ?_
        refine lv_iadd C.1 C.2.1 dX11_startRead_56 ?_
        refine x_topi (z := 21) (by decide) ?_
        refine lv_iconst (v := (-1)) C.1 C.2.1 dX11_startRead_57 (by decide) ?_
        refine x_iast (f' := (upd (upd (upd (upd (fun _ => 0) 18 (-1)) 19 (-1)) 20 (-1)) 21 (-1))) (w' := [(qm, .inr (10, [.int 0, .ref mtape, .int 0, .int 0, .int 0, .int 0, .int 0, .int 0, .int 0, .int 0, .int 0, .int 0, .long 0, .int 0, .ref mnow, .ref mread, .ref mkept, .ref msnaps, .ref maside, .ref mname, .ref mreadName, .ref mkeptName, .ref misKept, .ref monces, .int 0, .ref morder, .ref mordered, .int 0, .int 0, .int 0, .int (-1), .int (-1), .ref mtext, .int 0, .int 0, .ref mline, .ref mwritten, .int 0, .int 0, .ref mnode, .int 0, .int 0, .int 0, .int 0])), (mread, eI G 64 (upd (upd (upd (upd (fun _ => 0) 18 (-1)) 19 (-1)) 20 (-1)) 21 (-1))), (monces, eZ G 3 (fun _ => 0))]) C hw 1 rfl (x_in rfl) rfl rfl dX11_startRead_58 (fun H locs hw => ?_)
        refine lv_iinc (v := 4) (lv' := [(1, .int 4), (0, .ref qm)]) C.1 C.2.1 dX11_startRead_59 hl (k := 0) rfl (by decide) (by decide) rfl (fun ls hl => ?_)
        refine lv_goto (tgt := 43) C.1 C.2.1 dX11_startRead_62 (by decide) ?_
        refine lv_iload_n C.1 C.2.1 dX11_startRead_43 rfl (lv_at hl 0 rfl) ?_
        refine lv_bipush (v := 6) C.1 C.2.1 dX11_startRead_44 (by decide) ?_
        refine lv_icmp_ge (tgt := 65) C.1 C.2.1 dX11_startRead_46 (by decide) (fun h9 => absurd h9 (by decide)) (fun _ => ?_)
        refine lv_aload_n C.1 C.2.1 dX11_startRead_49 rfl (lv_at hl 1 rfl) ?_
        refine x_get C hw iwX11 10 rfl 0 rfl 15 (by decide) kw1212 rfl dX11_startRead_50 ?_
        refine lv_bipush (v := 18) C.1 C.2.1 dX11_startRead_53 (by decide) ?_
        refine lv_iload_n C.1 C.2.1 dX11_startRead_55 rfl (lv_at hl 0 rfl) ?_
        refine lv_iadd C.1 C.2.1 dX11_startRead_56 ?_
        refine x_topi (z := 22) (by decide) ?_
        refine lv_iconst (v := (-1)) C.1 C.2.1 dX11_startRead_57 (by decide) ?_
        refine x_iast (f' := (upd (upd (upd (upd (upd (fun _ => 0) 18 (-1)) 19 (-1)) 20 (-1)) 21 (-1)) 22 (-1))) (w' := [(qm, .inr (10, [.int 0, .ref mtape, .int 0, .int 0, .int 0, .int 0, .int 0, .int 0, .int 0, .int 0, .int 0, .int 0, .long 0, .int 0, .ref mnow, .ref mread, .ref mkept, .ref msnaps, .ref maside, .ref mname, .ref mreadName, .ref mkeptName, .ref misKept, .ref monces, .int 0, .ref morder, .ref mordered, .int 0, .int 0, .int 0, .int (-1), .int (-1), .ref mtext, .int 0, .int 0, .ref mline, .ref mwritten, .int 0, .int 0, .ref mnode, .int 0, .int 0, .int 0, .int 0])), (mread, eI G 64 (upd (upd (upd (upd (upd (fun _ => 0) 18 (-1)) 19 (-1)) 20 (-1)) 21 (-1)) 22 (-1))), (monces, eZ G 3 (fun _ => 0))]) C hw 1 rfl (x_in rfl) rfl rfl dX11_startRead_58 (fun H locs hw => ?_)
        refine lv_iinc (v := 5) (lv' := [(1, .int 5), (0, .ref qm)]) C.1 C.2.1 dX11_startRead_59 hl (k := 0) rfl (by decide) (by decide) rfl (fun ls hl => ?_)
        refine lv_goto (tgt := 43) C.1 C.2.1 dX11_startRead_62 (by decide) ?_
        refine lv_iload_n C.1 C.2.1 dX11_startRead_43 rfl (lv_at hl 0 rfl) ?_
        refine lv_bipush (v := 6) C.1 C.2.1 dX11_startRead_44 (by decide) ?_
        refine lv_icmp_ge (tgt := 65) C.1 C.2.1 dX11_startRead_46 (by decide) (fun h9 => absurd h9 (by decide)) (fun _ => ?_)
        refine lv_aload_n C.1 C.2.1 dX11_startRead_49 rfl (lv_at hl 1 rfl) ?_
        refine x_get C hw iwX11 10 rfl 0 rfl 15 (by decide) kw1212 rfl dX11_startRead_50 ?_
        refine lv_bipush (v := 18) C.1 C.2.1 dX11_startRead_53 (by decide) ?_
        refine lv_iload_n C.1 C.2.1 dX11_startRead_55 rfl (lv_at hl 0 rfl) ?_
        refine lv_iadd C.1 C.2.1 dX11_startRead_56 ?_
        refine x_topi (z := 23) (by decide) ?_
        refine lv_iconst (v := (-1)) C.1 C.2.1 dX11_startRead_57 (by decide) ?_
        refine x_iast (f' := (upd (upd (upd (upd (upd (upd (fun _ => 0) 18 (-1)) 19 (-1)) 20 (-1)) 21 (-1)) 22 (-1)) 23 (-1))) (w' := [(qm, .inr (10, [.int 0, .ref mtape, .int 0, .int 0, .int 0, .int 0, .int 0, .int 0, .int 0, .int 0, .int 0, .int 0, .long 0, .int 0, .ref mnow, .ref mread, .ref mkept, .ref msnaps, .ref maside, .ref mname, .ref mreadName, .ref mkeptName, .ref misKept, .ref monces, .int 0, .ref morder, .ref mordered, .int 0, .int 0, .int 0, .int (-1), .int (-1), .ref mtext, .int 0, .int 0, .ref mline, .ref mwritten, .int 0, .int 0, .ref mnode, .int 0, .int 0, .int 0, .int 0])), (mread, eI G 64 (upd (upd (upd (upd (upd (upd (fun _ => 0) 18 (-1)) 19 (-1)) 20 (-1)) 21 (-1)) 22 (-1)) 23 (-1))), (monces, eZ G 3 (fun _ => 0))]) C hw 1 rfl (x_in rfl) rfl rfl dX11_startRead_58 (fun H locs hw => ?_)
        refine lv_iinc (v := 6) (lv' := [(1, .int 6), (0, .ref qm)]) C.1 C.2.1 dX11_startRead_59 hl (k := 0) rfl (by decide) (by decide) rfl (fun ls hl => ?_)
        refine lv_goto (tgt := 43) C.1 C.2.1 dX11_startRead_62 (by decide) ?_
        refine lv_iload_n C.1 C.2.1 dX11_startRead_43 rfl (lv_at hl 0 rfl) ?_
        refine lv_bipush (v := 6) C.1 C.2.1 dX11_startRead_44 (by decide) ?_
        refine lv_icmp_ge (tgt := 65) C.1 C.2.1 dX11_startRead_46 (by decide) (fun _ => ?_) (fun h9 => absurd (by decide) h9)
        refine lv_aload_n C.1 C.2.1 dX11_startRead_65 rfl (lv_at hl 1 rfl) ?_
        refine x_get C hw iwX11 10 rfl 0 rfl 15 (by decide) kw1212 rfl dX11_startRead_66 ?_
        refine lv_iconst (v := 3) C.1 C.2.1 dX11_startRead_69 (by decide) ?_
        refine lv_iconst (v := 1) C.1 C.2.1 dX11_startRead_70 (by decide) ?_
        refine x_iast (f' := (upd (upd (upd (upd (upd (upd (upd (fun _ => 0) 18 (-1)) 19 (-1)) 20 (-1)) 21 (-1)) 22 (-1)) 23 (-1)) 3 1)) (w' := [(qm, .inr (10, [.int 0, .ref mtape, .int 0, .int 0, .int 0, .int 0, .int 0, .int 0, .int 0, .int 0, .int 0, .int 0, .long 0, .int 0, .ref mnow, .ref mread, .ref mkept, .ref msnaps, .ref maside, .ref mname, .ref mreadName, .ref mkeptName, .ref misKept, .ref monces, .int 0, .ref morder, .ref mordered, .int 0, .int 0, .int 0, .int (-1), .int (-1), .ref mtext, .int 0, .int 0, .ref mline, .ref mwritten, .int 0, .int 0, .ref mnode, .int 0, .int 0, .int 0, .int 0])), (mread, eI G 64 (upd (upd (upd (upd (upd (upd (upd (fun _ => 0) 18 (-1)) 19 (-1)) 20 (-1)) 21 (-1)) 22 (-1)) 23 (-1)) 3 1)), (monces, eZ G 3 (fun _ => 0))]) C hw 1 rfl (x_in rfl) rfl rfl dX11_startRead_71 (fun H locs hw => ?_)
        refine lv_aload_n C.1 C.2.1 dX11_startRead_72 rfl (lv_at hl 1 rfl) ?_
        refine x_get C hw iwX11 10 rfl 0 rfl 15 (by decide) kw1212 rfl dX11_startRead_73 ?_
        refine lv_iconst (v := 5) C.1 C.2.1 dX11_startRead_76 (by decide) ?_
        refine lv_bipush (v := 40) C.1 C.2.1 dX11_startRead_77 (by decide) ?_
        refine x_iast (f' := (upd (upd (upd (upd (upd (upd (upd (upd (fun _ => 0) 18 (-1)) 19 (-1)) 20 (-1)) 21 (-1)) 22 (-1)) 23 (-1)) 3 1) 5 40)) (w' := [(qm, .inr (10, [.int 0, .ref mtape, .int 0, .int 0, .int 0, .int 0, .int 0, .int 0, .int 0, .int 0, .int 0, .int 0, .long 0, .int 0, .ref mnow, .ref mread, .ref mkept, .ref msnaps, .ref maside, .ref mname, .ref mreadName, .ref mkeptName, .ref misKept, .ref monces, .int 0, .ref morder, .ref mordered, .int 0, .int 0, .int 0, .int (-1), .int (-1), .ref mtext, .int 0, .int 0, .ref mline, .ref mwritten, .int 0, .int 0, .ref mnode, .int 0, .int 0, .int 0, .int 0])), (mread, eI G 64 (upd (upd (upd (upd (upd (upd (upd (upd (fun _ => 0) 18 (-1)) 19 (-1)) 20 (-1)) 21 (-1)) 22 (-1)) 23 (-1)) 3 1) 5 40)), (monces, eZ G 3 (fun _ => 0))]) C hw 1 rfl (x_in rfl) rfl rfl dX11_startRead_79 (fun H locs hw => ?_)
        exact x_retv B hw rfl (Nat.le_of_ble_eq_true rfl) (Nat.le_of_ble_eq_true rfl) dX11_startRead_80
      · skip
        have hk5 : k9 < 64 := x_ltN hi2 c_5 (by decide)
        refine lv_aload_n C.1 C.2.1 dX11_startRead_8 rfl (lv_at hl 1 rfl) ?_
        refine x_get C hw iwX11 10 rfl 0 rfl 15 (by decide) kw1212 rfl dX11_startRead_9 ?_
        refine lv_iload_n C.1 C.2.1 dX11_startRead_12 rfl (lv_at hl 0 rfl) ?_
        refine lv_iconst (v := 0) C.1 C.2.1 dX11_startRead_13 (by decide) ?_
        refine x_iast (f' := (fun _ => 0)) (w' := [(qm, .inr (10, [.int 0, .ref mtape, .int 0, .int 0, .int 0, .int 0, .int 0, .int 0, .int 0, .int 0, .int 0, .int 0, .long 0, .int 0, .ref mnow, .ref mread, .ref mkept, .ref msnaps, .ref maside, .ref mname, .ref mreadName, .ref mkeptName, .ref misKept, .ref monces, .int 0, .ref morder, .ref mordered, .int 0, .int 0, .int 0, .int (-1), .int (-1), .ref mtext, .int 0, .int 0, .ref mline, .ref mwritten, .int 0, .int 0, .ref mnode, .int 0, .int 0, .int 0, .int 0])), (mread, eI G 64 (fun _ => 0)), (monces, eZ G 3 (fun _ => 0))]) C hw 1 rfl (vp_in_nI hk5 (by decide)) (x_updC 0 _) rfl dX11_startRead_14 (fun H locs hw => ?_)
        refine lv_iinc (v := (nI (k9 + 1))) (lv' := [(1, .int (nI (k9 + 1))), (0, .ref qm)]) C.1 C.2.1 dX11_startRead_15 hl (k := 0) rfl (nI_1 k9) (by decide) rfl (fun ls hl => ?_)
        refine lv_goto (tgt := 2) C.1 C.2.1 dX11_startRead_18 (by decide) ?_
        exact ih (k9 + 1) (by omega) hk5 _ _ _ hw (lv_sub hl [0, 1] rfl)
  exact loop2 _ 0 (Nat.lt_succ_self _) (Nat.zero_le _) _ _ _ hw (lv_sub hl [0, 1] rfl)
theorem dX11_init_0 : decode cX11_init 0 = .ok (.aload_n 0, 1) := by decide +kernel
theorem dX11_init_1 : decode cX11_init 1 = .ok (.invokespecial 93, 3) := by decide +kernel
theorem dX11_init_4 : decode cX11_init 4 = .ok (.aload_n 0, 1) := by decide +kernel
theorem dX11_init_5 : decode cX11_init 5 = .ok (.sipush 940, 3) := by decide +kernel
theorem dX11_init_8 : decode cX11_init 8 = .ok (.newarray .int, 2) := by decide +kernel
theorem dX11_init_10 : decode cX11_init 10 = .ok (.putfield 7, 3) := by decide +kernel
theorem dX11_init_13 : decode cX11_init 13 = .ok (.aload_n 0, 1) := by decide +kernel
theorem dX11_init_14 : decode cX11_init 14 = .ok (.sipush 339, 3) := by decide +kernel
theorem dX11_init_17 : decode cX11_init 17 = .ok (.newarray .int, 2) := by decide +kernel
theorem dX11_init_19 : decode cX11_init 19 = .ok (.putfield 98, 3) := by decide +kernel
theorem dX11_init_22 : decode cX11_init 22 = .ok (.aload_n 0, 1) := by decide +kernel
theorem dX11_init_23 : decode cX11_init 23 = .ok (.bipush 64, 2) := by decide +kernel
theorem dX11_init_25 : decode cX11_init 25 = .ok (.newarray .int, 2) := by decide +kernel
theorem dX11_init_27 : decode cX11_init 27 = .ok (.putfield 101, 3) := by decide +kernel
theorem dX11_init_30 : decode cX11_init 30 = .ok (.aload_n 0, 1) := by decide +kernel
theorem dX11_init_31 : decode cX11_init 31 = .ok (.sipush 678, 3) := by decide +kernel
theorem dX11_init_34 : decode cX11_init 34 = .ok (.newarray .int, 2) := by decide +kernel
theorem dX11_init_36 : decode cX11_init 36 = .ok (.putfield 104, 3) := by decide +kernel
theorem dX11_init_39 : decode cX11_init 39 = .ok (.aload_n 0, 1) := by decide +kernel
theorem dX11_init_40 : decode cX11_init 40 = .ok (.sipush 264, 3) := by decide +kernel
theorem dX11_init_43 : decode cX11_init 43 = .ok (.newarray .int, 2) := by decide +kernel
theorem dX11_init_45 : decode cX11_init 45 = .ok (.putfield 107, 3) := by decide +kernel
theorem dX11_init_48 : decode cX11_init 48 = .ok (.aload_n 0, 1) := by decide +kernel
theorem dX11_init_49 : decode cX11_init 49 = .ok (.bipush 33, 2) := by decide +kernel
theorem dX11_init_51 : decode cX11_init 51 = .ok (.newarray .int, 2) := by decide +kernel
theorem dX11_init_53 : decode cX11_init 53 = .ok (.putfield 110, 3) := by decide +kernel
theorem dX11_init_56 : decode cX11_init 56 = .ok (.aload_n 0, 1) := by decide +kernel
theorem dX11_init_57 : decode cX11_init 57 = .ok (.bipush 14, 2) := by decide +kernel
theorem dX11_init_59 : decode cX11_init 59 = .ok (.newarray .long, 2) := by decide +kernel
theorem dX11_init_61 : decode cX11_init 61 = .ok (.putfield 113, 3) := by decide +kernel
theorem dX11_init_64 : decode cX11_init 64 = .ok (.aload_n 0, 1) := by decide +kernel
theorem dX11_init_65 : decode cX11_init 65 = .ok (.bipush 14, 2) := by decide +kernel
theorem dX11_init_67 : decode cX11_init 67 = .ok (.newarray .long, 2) := by decide +kernel
theorem dX11_init_69 : decode cX11_init 69 = .ok (.putfield 117, 3) := by decide +kernel
theorem dX11_init_72 : decode cX11_init 72 = .ok (.aload_n 0, 1) := by decide +kernel
theorem dX11_init_73 : decode cX11_init 73 = .ok (.bipush 28, 2) := by decide +kernel
theorem dX11_init_75 : decode cX11_init 75 = .ok (.newarray .long, 2) := by decide +kernel
theorem dX11_init_77 : decode cX11_init 77 = .ok (.putfield 120, 3) := by decide +kernel
theorem dX11_init_80 : decode cX11_init 80 = .ok (.aload_n 0, 1) := by decide +kernel
theorem dX11_init_81 : decode cX11_init 81 = .ok (.iconst 2, 1) := by decide +kernel
theorem dX11_init_82 : decode cX11_init 82 = .ok (.newarray .boolean, 2) := by decide +kernel
theorem dX11_init_84 : decode cX11_init 84 = .ok (.putfield 123, 3) := by decide +kernel
theorem dX11_init_87 : decode cX11_init 87 = .ok (.aload_n 0, 1) := by decide +kernel
theorem dX11_init_88 : decode cX11_init 88 = .ok (.iconst 3, 1) := by decide +kernel
theorem dX11_init_89 : decode cX11_init 89 = .ok (.newarray .boolean, 2) := by decide +kernel
theorem dX11_init_91 : decode cX11_init 91 = .ok (.putfield 127, 3) := by decide +kernel
theorem dX11_init_94 : decode cX11_init 94 = .ok (.aload_n 0, 1) := by decide +kernel
theorem dX11_init_95 : decode cX11_init 95 = .ok (.bipush 6, 2) := by decide +kernel
theorem dX11_init_97 : decode cX11_init 97 = .ok (.newarray .int, 2) := by decide +kernel
theorem dX11_init_99 : decode cX11_init 99 = .ok (.putfield 130, 3) := by decide +kernel
theorem dX11_init_102 : decode cX11_init 102 = .ok (.aload_n 0, 1) := by decide +kernel
theorem dX11_init_103 : decode cX11_init 103 = .ok (.bipush 6, 2) := by decide +kernel
theorem dX11_init_105 : decode cX11_init 105 = .ok (.newarray .int, 2) := by decide +kernel
theorem dX11_init_107 : decode cX11_init 107 = .ok (.putfield 133, 3) := by decide +kernel
theorem dX11_init_110 : decode cX11_init 110 = .ok (.aload_n 0, 1) := by decide +kernel
theorem dX11_init_111 : decode cX11_init 111 = .ok (.iconst (-1), 1) := by decide +kernel
theorem dX11_init_112 : decode cX11_init 112 = .ok (.putfield 136, 3) := by decide +kernel
theorem dX11_init_115 : decode cX11_init 115 = .ok (.aload_n 0, 1) := by decide +kernel
theorem dX11_init_116 : decode cX11_init 116 = .ok (.iconst (-1), 1) := by decide +kernel
theorem dX11_init_117 : decode cX11_init 117 = .ok (.putfield 139, 3) := by decide +kernel
theorem dX11_init_120 : decode cX11_init 120 = .ok (.aload_n 0, 1) := by decide +kernel
theorem dX11_init_121 : decode cX11_init 121 = .ok (.bipush 64, 2) := by decide +kernel
theorem dX11_init_123 : decode cX11_init 123 = .ok (.newarray .int, 2) := by decide +kernel
theorem dX11_init_125 : decode cX11_init 125 = .ok (.putfield 142, 3) := by decide +kernel
theorem dX11_init_128 : decode cX11_init 128 = .ok (.aload_n 0, 1) := by decide +kernel
theorem dX11_init_129 : decode cX11_init 129 = .ok (.bipush 120, 2) := by decide +kernel
theorem dX11_init_131 : decode cX11_init 131 = .ok (.newarray .int, 2) := by decide +kernel
theorem dX11_init_133 : decode cX11_init 133 = .ok (.putfield 145, 3) := by decide +kernel
theorem dX11_init_136 : decode cX11_init 136 = .ok (.aload_n 0, 1) := by decide +kernel
theorem dX11_init_137 : decode cX11_init 137 = .ok (.iconst 4, 1) := by decide +kernel
theorem dX11_init_138 : decode cX11_init 138 = .ok (.newarray .int, 2) := by decide +kernel
theorem dX11_init_140 : decode cX11_init 140 = .ok (.putfield 148, 3) := by decide +kernel
theorem dX11_init_143 : decode cX11_init 143 = .ok (.aload_n 0, 1) := by decide +kernel
theorem dX11_init_144 : decode cX11_init 144 = .ok (.sipush 240, 3) := by decide +kernel
theorem dX11_init_147 : decode cX11_init 147 = .ok (.newarray .int, 2) := by decide +kernel
theorem dX11_init_149 : decode cX11_init 149 = .ok (.putfield 151, 3) := by decide +kernel
theorem dX11_init_152 : decode cX11_init 152 = .ok (.aload_n 0, 1) := by decide +kernel
theorem dX11_init_153 : decode cX11_init 153 = .ok (.invokevirtual 154, 3) := by decide +kernel
theorem mwX11_startRead : MwV yX11_startRead cX11_startRead 2 none 0 := ⟨⟨kw1196, kw15, by decide +kernel⟩, kw1195, kS44⟩
theorem dX11_init_156 : decode cX11_init 156 = .ok (.iconst 0, 1) := by decide +kernel
theorem dX11_init_157 : decode cX11_init 157 = .ok (.istore_n 1, 1) := by decide +kernel
theorem dX11_init_158 : decode cX11_init 158 = .ok (.iload_n 1, 1) := by decide +kernel
theorem dX11_init_159 : decode cX11_init 159 = .ok (.bipush 64, 2) := by decide +kernel
theorem dX11_init_161 : decode cX11_init 161 = .ok (.if_icmp .ge 21, 3) := by decide +kernel
theorem dX11_init_182 : decode cX11_init 182 = .ok (.return_, 1) := by decide +kernel
theorem dX11_init_164 : decode cX11_init 164 = .ok (.aload_n 0, 1) := by decide +kernel
theorem dX11_init_165 : decode cX11_init 165 = .ok (.getfield 98, 3) := by decide +kernel
theorem dX11_init_168 : decode cX11_init 168 = .ok (.iload_n 1, 1) := by decide +kernel
theorem dX11_init_169 : decode cX11_init 169 = .ok (.aload_n 0, 1) := by decide +kernel
theorem dX11_init_170 : decode cX11_init 170 = .ok (.getfield 101, 3) := by decide +kernel
theorem dX11_init_173 : decode cX11_init 173 = .ok (.iload_n 1, 1) := by decide +kernel
theorem dX11_init_174 : decode cX11_init 174 = .ok (.iaload, 1) := by decide +kernel
theorem dX11_init_175 : decode cX11_init 175 = .ok (.iastore, 1) := by decide +kernel
theorem dX11_init_176 : decode cX11_init 176 = .ok (.iinc 1 1, 3) := by decide +kernel
theorem dX11_init_179 : decode cX11_init 179 = .ok (.goto (-21), 3) := by decide +kernel
-- the reference
set_option maxHeartbeats 4000000 in
set_option maxRecDepth 100000 in
theorem c_X11_init {l : Launch} {G : Gc} (qm : Nat)  : Cv l yX11_init cX11_init 2 1 17 2819 G [.ref qm] [(qm, .inr (10, [.int 0, .null, .int 0, .int 0, .int 0, .int 0, .int 0, .int 0, .int 0, .int 0, .int 0, .int 0, .long 0, .int 0, .null, .null, .null, .null, .null, .null, .null, .null, .null, .null, .int 0, .null, .null, .int 0, .int 0, .int 0, .int 0, .int 0, .null, .int 0, .int 0, .null, .null, .int 0, .int 0, .null, .int 0, .int 0, .int 0, .int 0]))] (fun (u9 : va_W) => ∃ (mtape : Nat) (mnow : Nat) (mread : Nat) (mkept : Nat) (msnaps : Nat) (maside : Nat) (mname : Nat) (mreadName : Nat) (mkeptName : Nat) (misKept : Nat) (monces : Nat) (morder : Nat) (mordered : Nat) (mtext : Nat) (mline : Nat) (mwritten : Nat) (mnode : Nat), u9 = [(qm, .inr (10, [.int 0, .ref mtape, .int 0, .int 0, .int 0, .int 0, .int 0, .int 0, .int 0, .int 0, .int 0, .int 0, .long 0, .int 0, .ref mnow, .ref mread, .ref mkept, .ref msnaps, .ref maside, .ref mname, .ref mreadName, .ref mkeptName, .ref misKept, .ref monces, .int 0, .ref morder, .ref mordered, .int 0, .int 0, .int 0, .int (-1), .int (-1), .ref mtext, .int 0, .int 0, .ref mline, .ref mwritten, .int 0, .int 0, .ref mnode, .int 0, .int 0, .int 0, .int 0])), (mtape, eI G 940 (fun _ => 0)), (mnow, eI G 339 nw0), (mread, eI G 64 rd0), (mkept, eI G 678 (fun _ => 0)), (msnaps, eI G 264 (fun _ => 0)), (maside, eI G 33 (fun _ => 0)), (mname, eJ G 14 (fun _ => 0)), (mreadName, eJ G 14 (fun _ => 0)), (mkeptName, eJ G 28 (fun _ => 0)), (misKept, eZ G 2 (fun _ => 0)), (monces, eZ G 3 (fun _ => 0)), (morder, eI G 6 (fun _ => 0)), (mordered, eI G 6 (fun _ => 0)), (mtext, eI G 64 (fun _ => 0)), (mline, eI G 120 (fun _ => 0)), (mwritten, eI G 4 (fun _ => 0)), (mnode, eI G 240 (fun _ => 0))]) := by
  refine Cv.of (by decide) (Nat.le_of_ble_eq_true rfl) ?_
  intro p e s m below meth c ls A B hw hl
  have C : CallFix p m c cX11_init 2 s _ gw "LanternStateModel" := B.1
  have hl : lv_has ls 2 [(0, .ref qm)] := hl
  refine lv_aload_n C.1 C.2.1 dX11_init_0 rfl (lv_at hl 0 rfl) ?_
  refine x_objInit C kw1192 hl.1 (Nat.le_of_ble_eq_true rfl) (Nat.le_of_ble_eq_true rfl) dX11_init_1 ?_
  refine lv_aload_n C.1 C.2.1 dX11_init_4 rfl (lv_at hl 0 rfl) ?_
  refine lv_sipush (v := 940) C.1 C.2.1 dX11_init_5 (by decide) ?_
  refine x_newa (a0 := (940, .inl (fun _ => 0))) (N := 940) C hw (atype := .int) rfl 2 rfl kw230 (fun _ => rfl) (by decide) (by decide) (Nat.le_of_ble_eq_true rfl) (Nat.le_of_ble_eq_true rfl) (Nat.le_of_ble_eq_true rfl) dX11_init_8 (fun q1 H hw => ?_)
  have hw : Wd G s A [(qm, .inr (10, [.int 0, .null, .int 0, .int 0, .int 0, .int 0, .int 0, .int 0, .int 0, .int 0, .int 0, .int 0, .long 0, .int 0, .null, .null, .null, .null, .null, .null, .null, .null, .null, .null, .int 0, .null, .null, .int 0, .int 0, .int 0, .int 0, .int 0, .null, .int 0, .int 0, .null, .null, .int 0, .int 0, .null, .int 0, .int 0, .int 0, .int 0])), (q1, eI G 940 (fun _ => 0))] H _ := hw
  refine W.widen (k := 1) (n := 940) (Nat.le_of_ble_eq_true rfl) (Nat.le_of_ble_eq_true rfl) ?_
  refine x_putF (w' := [(qm, .inr (10, [.int 0, .ref q1, .int 0, .int 0, .int 0, .int 0, .int 0, .int 0, .int 0, .int 0, .int 0, .int 0, .long 0, .int 0, .null, .null, .null, .null, .null, .null, .null, .null, .null, .null, .int 0, .null, .null, .int 0, .int 0, .int 0, .int 0, .int 0, .null, .int 0, .int 0, .null, .null, .int 0, .int 0, .null, .int 0, .int 0, .int 0, .int 0])), (q1, eI G 940 (fun _ => 0))]) C hw iwX11 tyX11_ok nmX11 B.2.2.2 10 rfl 0 rfl 1 (by decide) kw1198 rfl rfl rfl rfl (Nat.le_of_ble_eq_true rfl) rfl dX11_init_10 (fun H locs hw => ?_)
  refine lv_aload_n C.1 C.2.1 dX11_init_13 rfl (lv_at hl 0 rfl) ?_
  refine lv_sipush (v := 339) C.1 C.2.1 dX11_init_14 (by decide) ?_
  refine x_newa (a0 := (339, .inl (fun _ => 0))) (N := 339) C hw (atype := .int) rfl 2 rfl kw230 (fun _ => rfl) (by decide) (by decide) (Nat.le_of_ble_eq_true rfl) (Nat.le_of_ble_eq_true rfl) (Nat.le_of_ble_eq_true rfl) dX11_init_17 (fun q2 H hw => ?_)
  have hw : Wd G s A [(qm, .inr (10, [.int 0, .ref q1, .int 0, .int 0, .int 0, .int 0, .int 0, .int 0, .int 0, .int 0, .int 0, .int 0, .long 0, .int 0, .null, .null, .null, .null, .null, .null, .null, .null, .null, .null, .int 0, .null, .null, .int 0, .int 0, .int 0, .int 0, .int 0, .null, .int 0, .int 0, .null, .null, .int 0, .int 0, .null, .int 0, .int 0, .int 0, .int 0])), (q1, eI G 940 (fun _ => 0)), (q2, eI G 339 (fun _ => 0))] H _ := hw
  refine W.widen (k := 2) (n := 1279) (Nat.le_of_ble_eq_true rfl) (Nat.le_of_ble_eq_true rfl) ?_
  refine x_putF (w' := [(qm, .inr (10, [.int 0, .ref q1, .int 0, .int 0, .int 0, .int 0, .int 0, .int 0, .int 0, .int 0, .int 0, .int 0, .long 0, .int 0, .ref q2, .null, .null, .null, .null, .null, .null, .null, .null, .null, .int 0, .null, .null, .int 0, .int 0, .int 0, .int 0, .int 0, .null, .int 0, .int 0, .null, .null, .int 0, .int 0, .null, .int 0, .int 0, .int 0, .int 0])), (q1, eI G 940 (fun _ => 0)), (q2, eI G 339 (fun _ => 0))]) C hw iwX11 tyX11_ok nmX11 B.2.2.2 10 rfl 0 rfl 14 (by decide) kw1211 rfl rfl rfl rfl (Nat.le_of_ble_eq_true rfl) rfl dX11_init_19 (fun H locs hw => ?_)
  refine lv_aload_n C.1 C.2.1 dX11_init_22 rfl (lv_at hl 0 rfl) ?_
  refine lv_bipush (v := 64) C.1 C.2.1 dX11_init_23 (by decide) ?_
  refine x_newa (a0 := (64, .inl (fun _ => 0))) (N := 64) C hw (atype := .int) rfl 2 rfl kw230 (fun _ => rfl) (by decide) (by decide) (Nat.le_of_ble_eq_true rfl) (Nat.le_of_ble_eq_true rfl) (Nat.le_of_ble_eq_true rfl) dX11_init_25 (fun q3 H hw => ?_)
  have hw : Wd G s A [(qm, .inr (10, [.int 0, .ref q1, .int 0, .int 0, .int 0, .int 0, .int 0, .int 0, .int 0, .int 0, .int 0, .int 0, .long 0, .int 0, .ref q2, .null, .null, .null, .null, .null, .null, .null, .null, .null, .int 0, .null, .null, .int 0, .int 0, .int 0, .int 0, .int 0, .null, .int 0, .int 0, .null, .null, .int 0, .int 0, .null, .int 0, .int 0, .int 0, .int 0])), (q1, eI G 940 (fun _ => 0)), (q2, eI G 339 (fun _ => 0)), (q3, eI G 64 (fun _ => 0))] H _ := hw
  refine W.widen (k := 3) (n := 1343) (Nat.le_of_ble_eq_true rfl) (Nat.le_of_ble_eq_true rfl) ?_
  refine x_putF (w' := [(qm, .inr (10, [.int 0, .ref q1, .int 0, .int 0, .int 0, .int 0, .int 0, .int 0, .int 0, .int 0, .int 0, .int 0, .long 0, .int 0, .ref q2, .ref q3, .null, .null, .null, .null, .null, .null, .null, .null, .int 0, .null, .null, .int 0, .int 0, .int 0, .int 0, .int 0, .null, .int 0, .int 0, .null, .null, .int 0, .int 0, .null, .int 0, .int 0, .int 0, .int 0])), (q1, eI G 940 (fun _ => 0)), (q2, eI G 339 (fun _ => 0)), (q3, eI G 64 (fun _ => 0))]) C hw iwX11 tyX11_ok nmX11 B.2.2.2 10 rfl 0 rfl 15 (by decide) kw1212 rfl rfl rfl rfl (Nat.le_of_ble_eq_true rfl) rfl dX11_init_27 (fun H locs hw => ?_)
  refine lv_aload_n C.1 C.2.1 dX11_init_30 rfl (lv_at hl 0 rfl) ?_
  refine lv_sipush (v := 678) C.1 C.2.1 dX11_init_31 (by decide) ?_
  refine x_newa (a0 := (678, .inl (fun _ => 0))) (N := 678) C hw (atype := .int) rfl 2 rfl kw230 (fun _ => rfl) (by decide) (by decide) (Nat.le_of_ble_eq_true rfl) (Nat.le_of_ble_eq_true rfl) (Nat.le_of_ble_eq_true rfl) dX11_init_34 (fun q4 H hw => ?_)
  have hw : Wd G s A [(qm, .inr (10, [.int 0, .ref q1, .int 0, .int 0, .int 0, .int 0, .int 0, .int 0, .int 0, .int 0, .int 0, .int 0, .long 0, .int 0, .ref q2, .ref q3, .null, .null, .null, .null, .null, .null, .null, .null, .int 0, .null, .null, .int 0, .int 0, .int 0, .int 0, .int 0, .null, .int 0, .int 0, .null, .null, .int 0, .int 0, .null, .int 0, .int 0, .int 0, .int 0])), (q1, eI G 940 (fun _ => 0)), (q2, eI G 339 (fun _ => 0)), (q3, eI G 64 (fun _ => 0)), (q4, eI G 678 (fun _ => 0))] H _ := hw
  refine W.widen (k := 4) (n := 2021) (Nat.le_of_ble_eq_true rfl) (Nat.le_of_ble_eq_true rfl) ?_
  refine x_putF (w' := [(qm, .inr (10, [.int 0, .ref q1, .int 0, .int 0, .int 0, .int 0, .int 0, .int 0, .int 0, .int 0, .int 0, .int 0, .long 0, .int 0, .ref q2, .ref q3, .ref q4, .null, .null, .null, .null, .null, .null, .null, .int 0, .null, .null, .int 0, .int 0, .int 0, .int 0, .int 0, .null, .int 0, .int 0, .null, .null, .int 0, .int 0, .null, .int 0, .int 0, .int 0, .int 0])), (q1, eI G 940 (fun _ => 0)), (q2, eI G 339 (fun _ => 0)), (q3, eI G 64 (fun _ => 0)), (q4, eI G 678 (fun _ => 0))]) C hw iwX11 tyX11_ok nmX11 B.2.2.2 10 rfl 0 rfl 16 (by decide) kw1213 rfl rfl rfl rfl (Nat.le_of_ble_eq_true rfl) rfl dX11_init_36 (fun H locs hw => ?_)
  refine lv_aload_n C.1 C.2.1 dX11_init_39 rfl (lv_at hl 0 rfl) ?_
  refine lv_sipush (v := 264) C.1 C.2.1 dX11_init_40 (by decide) ?_
  refine x_newa (a0 := (264, .inl (fun _ => 0))) (N := 264) C hw (atype := .int) rfl 2 rfl kw230 (fun _ => rfl) (by decide) (by decide) (Nat.le_of_ble_eq_true rfl) (Nat.le_of_ble_eq_true rfl) (Nat.le_of_ble_eq_true rfl) dX11_init_43 (fun q5 H hw => ?_)
  have hw : Wd G s A [(qm, .inr (10, [.int 0, .ref q1, .int 0, .int 0, .int 0, .int 0, .int 0, .int 0, .int 0, .int 0, .int 0, .int 0, .long 0, .int 0, .ref q2, .ref q3, .ref q4, .null, .null, .null, .null, .null, .null, .null, .int 0, .null, .null, .int 0, .int 0, .int 0, .int 0, .int 0, .null, .int 0, .int 0, .null, .null, .int 0, .int 0, .null, .int 0, .int 0, .int 0, .int 0])), (q1, eI G 940 (fun _ => 0)), (q2, eI G 339 (fun _ => 0)), (q3, eI G 64 (fun _ => 0)), (q4, eI G 678 (fun _ => 0)), (q5, eI G 264 (fun _ => 0))] H _ := hw
  refine W.widen (k := 5) (n := 2285) (Nat.le_of_ble_eq_true rfl) (Nat.le_of_ble_eq_true rfl) ?_
  refine x_putF (w' := [(qm, .inr (10, [.int 0, .ref q1, .int 0, .int 0, .int 0, .int 0, .int 0, .int 0, .int 0, .int 0, .int 0, .int 0, .long 0, .int 0, .ref q2, .ref q3, .ref q4, .ref q5, .null, .null, .null, .null, .null, .null, .int 0, .null, .null, .int 0, .int 0, .int 0, .int 0, .int 0, .null, .int 0, .int 0, .null, .null, .int 0, .int 0, .null, .int 0, .int 0, .int 0, .int 0])), (q1, eI G 940 (fun _ => 0)), (q2, eI G 339 (fun _ => 0)), (q3, eI G 64 (fun _ => 0)), (q4, eI G 678 (fun _ => 0)), (q5, eI G 264 (fun _ => 0))]) C hw iwX11 tyX11_ok nmX11 B.2.2.2 10 rfl 0 rfl 17 (by decide) kw1214 rfl rfl rfl rfl (Nat.le_of_ble_eq_true rfl) rfl dX11_init_45 (fun H locs hw => ?_)
  refine lv_aload_n C.1 C.2.1 dX11_init_48 rfl (lv_at hl 0 rfl) ?_
  refine lv_bipush (v := 33) C.1 C.2.1 dX11_init_49 (by decide) ?_
  refine x_newa (a0 := (33, .inl (fun _ => 0))) (N := 33) C hw (atype := .int) rfl 2 rfl kw230 (fun _ => rfl) (by decide) (by decide) (Nat.le_of_ble_eq_true rfl) (Nat.le_of_ble_eq_true rfl) (Nat.le_of_ble_eq_true rfl) dX11_init_51 (fun q6 H hw => ?_)
  have hw : Wd G s A [(qm, .inr (10, [.int 0, .ref q1, .int 0, .int 0, .int 0, .int 0, .int 0, .int 0, .int 0, .int 0, .int 0, .int 0, .long 0, .int 0, .ref q2, .ref q3, .ref q4, .ref q5, .null, .null, .null, .null, .null, .null, .int 0, .null, .null, .int 0, .int 0, .int 0, .int 0, .int 0, .null, .int 0, .int 0, .null, .null, .int 0, .int 0, .null, .int 0, .int 0, .int 0, .int 0])), (q1, eI G 940 (fun _ => 0)), (q2, eI G 339 (fun _ => 0)), (q3, eI G 64 (fun _ => 0)), (q4, eI G 678 (fun _ => 0)), (q5, eI G 264 (fun _ => 0)), (q6, eI G 33 (fun _ => 0))] H _ := hw
  refine W.widen (k := 6) (n := 2318) (Nat.le_of_ble_eq_true rfl) (Nat.le_of_ble_eq_true rfl) ?_
  refine x_putF (w' := [(qm, .inr (10, [.int 0, .ref q1, .int 0, .int 0, .int 0, .int 0, .int 0, .int 0, .int 0, .int 0, .int 0, .int 0, .long 0, .int 0, .ref q2, .ref q3, .ref q4, .ref q5, .ref q6, .null, .null, .null, .null, .null, .int 0, .null, .null, .int 0, .int 0, .int 0, .int 0, .int 0, .null, .int 0, .int 0, .null, .null, .int 0, .int 0, .null, .int 0, .int 0, .int 0, .int 0])), (q1, eI G 940 (fun _ => 0)), (q2, eI G 339 (fun _ => 0)), (q3, eI G 64 (fun _ => 0)), (q4, eI G 678 (fun _ => 0)), (q5, eI G 264 (fun _ => 0)), (q6, eI G 33 (fun _ => 0))]) C hw iwX11 tyX11_ok nmX11 B.2.2.2 10 rfl 0 rfl 18 (by decide) kw1215 rfl rfl rfl rfl (Nat.le_of_ble_eq_true rfl) rfl dX11_init_53 (fun H locs hw => ?_)
  refine lv_aload_n C.1 C.2.1 dX11_init_56 rfl (lv_at hl 0 rfl) ?_
  refine lv_bipush (v := 14) C.1 C.2.1 dX11_init_57 (by decide) ?_
  refine x_newa (a0 := (14, .inr (.inl (fun _ => 0)))) (N := 14) C hw (atype := .long) rfl 3 rfl kw139 (fun _ => rfl) (by decide) (by decide) (Nat.le_of_ble_eq_true rfl) (Nat.le_of_ble_eq_true rfl) (Nat.le_of_ble_eq_true rfl) dX11_init_59 (fun q7 H hw => ?_)
  have hw : Wd G s A [(qm, .inr (10, [.int 0, .ref q1, .int 0, .int 0, .int 0, .int 0, .int 0, .int 0, .int 0, .int 0, .int 0, .int 0, .long 0, .int 0, .ref q2, .ref q3, .ref q4, .ref q5, .ref q6, .null, .null, .null, .null, .null, .int 0, .null, .null, .int 0, .int 0, .int 0, .int 0, .int 0, .null, .int 0, .int 0, .null, .null, .int 0, .int 0, .null, .int 0, .int 0, .int 0, .int 0])), (q1, eI G 940 (fun _ => 0)), (q2, eI G 339 (fun _ => 0)), (q3, eI G 64 (fun _ => 0)), (q4, eI G 678 (fun _ => 0)), (q5, eI G 264 (fun _ => 0)), (q6, eI G 33 (fun _ => 0)), (q7, eJ G 14 (fun _ => 0))] H _ := hw
  refine W.widen (k := 7) (n := 2332) (Nat.le_of_ble_eq_true rfl) (Nat.le_of_ble_eq_true rfl) ?_
  refine x_putF (w' := [(qm, .inr (10, [.int 0, .ref q1, .int 0, .int 0, .int 0, .int 0, .int 0, .int 0, .int 0, .int 0, .int 0, .int 0, .long 0, .int 0, .ref q2, .ref q3, .ref q4, .ref q5, .ref q6, .ref q7, .null, .null, .null, .null, .int 0, .null, .null, .int 0, .int 0, .int 0, .int 0, .int 0, .null, .int 0, .int 0, .null, .null, .int 0, .int 0, .null, .int 0, .int 0, .int 0, .int 0])), (q1, eI G 940 (fun _ => 0)), (q2, eI G 339 (fun _ => 0)), (q3, eI G 64 (fun _ => 0)), (q4, eI G 678 (fun _ => 0)), (q5, eI G 264 (fun _ => 0)), (q6, eI G 33 (fun _ => 0)), (q7, eJ G 14 (fun _ => 0))]) C hw iwX11 tyX11_ok nmX11 B.2.2.2 10 rfl 0 rfl 19 (by decide) kw1216 rfl rfl rfl rfl (Nat.le_of_ble_eq_true rfl) rfl dX11_init_61 (fun H locs hw => ?_)
  refine lv_aload_n C.1 C.2.1 dX11_init_64 rfl (lv_at hl 0 rfl) ?_
  refine lv_bipush (v := 14) C.1 C.2.1 dX11_init_65 (by decide) ?_
  refine x_newa (a0 := (14, .inr (.inl (fun _ => 0)))) (N := 14) C hw (atype := .long) rfl 3 rfl kw139 (fun _ => rfl) (by decide) (by decide) (Nat.le_of_ble_eq_true rfl) (Nat.le_of_ble_eq_true rfl) (Nat.le_of_ble_eq_true rfl) dX11_init_67 (fun q8 H hw => ?_)
  have hw : Wd G s A [(qm, .inr (10, [.int 0, .ref q1, .int 0, .int 0, .int 0, .int 0, .int 0, .int 0, .int 0, .int 0, .int 0, .int 0, .long 0, .int 0, .ref q2, .ref q3, .ref q4, .ref q5, .ref q6, .ref q7, .null, .null, .null, .null, .int 0, .null, .null, .int 0, .int 0, .int 0, .int 0, .int 0, .null, .int 0, .int 0, .null, .null, .int 0, .int 0, .null, .int 0, .int 0, .int 0, .int 0])), (q1, eI G 940 (fun _ => 0)), (q2, eI G 339 (fun _ => 0)), (q3, eI G 64 (fun _ => 0)), (q4, eI G 678 (fun _ => 0)), (q5, eI G 264 (fun _ => 0)), (q6, eI G 33 (fun _ => 0)), (q7, eJ G 14 (fun _ => 0)), (q8, eJ G 14 (fun _ => 0))] H _ := hw
  refine W.widen (k := 8) (n := 2346) (Nat.le_of_ble_eq_true rfl) (Nat.le_of_ble_eq_true rfl) ?_
  refine x_putF (w' := [(qm, .inr (10, [.int 0, .ref q1, .int 0, .int 0, .int 0, .int 0, .int 0, .int 0, .int 0, .int 0, .int 0, .int 0, .long 0, .int 0, .ref q2, .ref q3, .ref q4, .ref q5, .ref q6, .ref q7, .ref q8, .null, .null, .null, .int 0, .null, .null, .int 0, .int 0, .int 0, .int 0, .int 0, .null, .int 0, .int 0, .null, .null, .int 0, .int 0, .null, .int 0, .int 0, .int 0, .int 0])), (q1, eI G 940 (fun _ => 0)), (q2, eI G 339 (fun _ => 0)), (q3, eI G 64 (fun _ => 0)), (q4, eI G 678 (fun _ => 0)), (q5, eI G 264 (fun _ => 0)), (q6, eI G 33 (fun _ => 0)), (q7, eJ G 14 (fun _ => 0)), (q8, eJ G 14 (fun _ => 0))]) C hw iwX11 tyX11_ok nmX11 B.2.2.2 10 rfl 0 rfl 20 (by decide) kw1217 rfl rfl rfl rfl (Nat.le_of_ble_eq_true rfl) rfl dX11_init_69 (fun H locs hw => ?_)
  refine lv_aload_n C.1 C.2.1 dX11_init_72 rfl (lv_at hl 0 rfl) ?_
  refine lv_bipush (v := 28) C.1 C.2.1 dX11_init_73 (by decide) ?_
  refine x_newa (a0 := (28, .inr (.inl (fun _ => 0)))) (N := 28) C hw (atype := .long) rfl 3 rfl kw139 (fun _ => rfl) (by decide) (by decide) (Nat.le_of_ble_eq_true rfl) (Nat.le_of_ble_eq_true rfl) (Nat.le_of_ble_eq_true rfl) dX11_init_75 (fun q9 H hw => ?_)
  have hw : Wd G s A [(qm, .inr (10, [.int 0, .ref q1, .int 0, .int 0, .int 0, .int 0, .int 0, .int 0, .int 0, .int 0, .int 0, .int 0, .long 0, .int 0, .ref q2, .ref q3, .ref q4, .ref q5, .ref q6, .ref q7, .ref q8, .null, .null, .null, .int 0, .null, .null, .int 0, .int 0, .int 0, .int 0, .int 0, .null, .int 0, .int 0, .null, .null, .int 0, .int 0, .null, .int 0, .int 0, .int 0, .int 0])), (q1, eI G 940 (fun _ => 0)), (q2, eI G 339 (fun _ => 0)), (q3, eI G 64 (fun _ => 0)), (q4, eI G 678 (fun _ => 0)), (q5, eI G 264 (fun _ => 0)), (q6, eI G 33 (fun _ => 0)), (q7, eJ G 14 (fun _ => 0)), (q8, eJ G 14 (fun _ => 0)), (q9, eJ G 28 (fun _ => 0))] H _ := hw
  refine W.widen (k := 9) (n := 2374) (Nat.le_of_ble_eq_true rfl) (Nat.le_of_ble_eq_true rfl) ?_
  refine x_putF (w' := [(qm, .inr (10, [.int 0, .ref q1, .int 0, .int 0, .int 0, .int 0, .int 0, .int 0, .int 0, .int 0, .int 0, .int 0, .long 0, .int 0, .ref q2, .ref q3, .ref q4, .ref q5, .ref q6, .ref q7, .ref q8, .ref q9, .null, .null, .int 0, .null, .null, .int 0, .int 0, .int 0, .int 0, .int 0, .null, .int 0, .int 0, .null, .null, .int 0, .int 0, .null, .int 0, .int 0, .int 0, .int 0])), (q1, eI G 940 (fun _ => 0)), (q2, eI G 339 (fun _ => 0)), (q3, eI G 64 (fun _ => 0)), (q4, eI G 678 (fun _ => 0)), (q5, eI G 264 (fun _ => 0)), (q6, eI G 33 (fun _ => 0)), (q7, eJ G 14 (fun _ => 0)), (q8, eJ G 14 (fun _ => 0)), (q9, eJ G 28 (fun _ => 0))]) C hw iwX11 tyX11_ok nmX11 B.2.2.2 10 rfl 0 rfl 21 (by decide) kw1218 rfl rfl rfl rfl (Nat.le_of_ble_eq_true rfl) rfl dX11_init_77 (fun H locs hw => ?_)
  refine lv_aload_n C.1 C.2.1 dX11_init_80 rfl (lv_at hl 0 rfl) ?_
  refine lv_iconst (v := 2) C.1 C.2.1 dX11_init_81 (by decide) ?_
  refine x_newa (a0 := (2, .inl (fun _ => 0))) (N := 2) C hw (atype := .boolean) rfl 4 rfl kw1330 (fun _ => rfl) (by decide) (by decide) (Nat.le_of_ble_eq_true rfl) (Nat.le_of_ble_eq_true rfl) (Nat.le_of_ble_eq_true rfl) dX11_init_82 (fun q10 H hw => ?_)
  have hw : Wd G s A [(qm, .inr (10, [.int 0, .ref q1, .int 0, .int 0, .int 0, .int 0, .int 0, .int 0, .int 0, .int 0, .int 0, .int 0, .long 0, .int 0, .ref q2, .ref q3, .ref q4, .ref q5, .ref q6, .ref q7, .ref q8, .ref q9, .null, .null, .int 0, .null, .null, .int 0, .int 0, .int 0, .int 0, .int 0, .null, .int 0, .int 0, .null, .null, .int 0, .int 0, .null, .int 0, .int 0, .int 0, .int 0])), (q1, eI G 940 (fun _ => 0)), (q2, eI G 339 (fun _ => 0)), (q3, eI G 64 (fun _ => 0)), (q4, eI G 678 (fun _ => 0)), (q5, eI G 264 (fun _ => 0)), (q6, eI G 33 (fun _ => 0)), (q7, eJ G 14 (fun _ => 0)), (q8, eJ G 14 (fun _ => 0)), (q9, eJ G 28 (fun _ => 0)), (q10, eZ G 2 (fun _ => 0))] H _ := hw
  refine W.widen (k := 10) (n := 2376) (Nat.le_of_ble_eq_true rfl) (Nat.le_of_ble_eq_true rfl) ?_
  refine x_putF (w' := [(qm, .inr (10, [.int 0, .ref q1, .int 0, .int 0, .int 0, .int 0, .int 0, .int 0, .int 0, .int 0, .int 0, .int 0, .long 0, .int 0, .ref q2, .ref q3, .ref q4, .ref q5, .ref q6, .ref q7, .ref q8, .ref q9, .ref q10, .null, .int 0, .null, .null, .int 0, .int 0, .int 0, .int 0, .int 0, .null, .int 0, .int 0, .null, .null, .int 0, .int 0, .null, .int 0, .int 0, .int 0, .int 0])), (q1, eI G 940 (fun _ => 0)), (q2, eI G 339 (fun _ => 0)), (q3, eI G 64 (fun _ => 0)), (q4, eI G 678 (fun _ => 0)), (q5, eI G 264 (fun _ => 0)), (q6, eI G 33 (fun _ => 0)), (q7, eJ G 14 (fun _ => 0)), (q8, eJ G 14 (fun _ => 0)), (q9, eJ G 28 (fun _ => 0)), (q10, eZ G 2 (fun _ => 0))]) C hw iwX11 tyX11_ok nmX11 B.2.2.2 10 rfl 0 rfl 22 (by decide) kw1219 rfl rfl rfl rfl (Nat.le_of_ble_eq_true rfl) rfl dX11_init_84 (fun H locs hw => ?_)
  refine lv_aload_n C.1 C.2.1 dX11_init_87 rfl (lv_at hl 0 rfl) ?_
  refine lv_iconst (v := 3) C.1 C.2.1 dX11_init_88 (by decide) ?_
  refine x_newa (a0 := (3, .inl (fun _ => 0))) (N := 3) C hw (atype := .boolean) rfl 4 rfl kw1330 (fun _ => rfl) (by decide) (by decide) (Nat.le_of_ble_eq_true rfl) (Nat.le_of_ble_eq_true rfl) (Nat.le_of_ble_eq_true rfl) dX11_init_89 (fun q11 H hw => ?_)
  have hw : Wd G s A [(qm, .inr (10, [.int 0, .ref q1, .int 0, .int 0, .int 0, .int 0, .int 0, .int 0, .int 0, .int 0, .int 0, .int 0, .long 0, .int 0, .ref q2, .ref q3, .ref q4, .ref q5, .ref q6, .ref q7, .ref q8, .ref q9, .ref q10, .null, .int 0, .null, .null, .int 0, .int 0, .int 0, .int 0, .int 0, .null, .int 0, .int 0, .null, .null, .int 0, .int 0, .null, .int 0, .int 0, .int 0, .int 0])), (q1, eI G 940 (fun _ => 0)), (q2, eI G 339 (fun _ => 0)), (q3, eI G 64 (fun _ => 0)), (q4, eI G 678 (fun _ => 0)), (q5, eI G 264 (fun _ => 0)), (q6, eI G 33 (fun _ => 0)), (q7, eJ G 14 (fun _ => 0)), (q8, eJ G 14 (fun _ => 0)), (q9, eJ G 28 (fun _ => 0)), (q10, eZ G 2 (fun _ => 0)), (q11, eZ G 3 (fun _ => 0))] H _ := hw
  refine W.widen (k := 11) (n := 2379) (Nat.le_of_ble_eq_true rfl) (Nat.le_of_ble_eq_true rfl) ?_
  refine x_putF (w' := [(qm, .inr (10, [.int 0, .ref q1, .int 0, .int 0, .int 0, .int 0, .int 0, .int 0, .int 0, .int 0, .int 0, .int 0, .long 0, .int 0, .ref q2, .ref q3, .ref q4, .ref q5, .ref q6, .ref q7, .ref q8, .ref q9, .ref q10, .ref q11, .int 0, .null, .null, .int 0, .int 0, .int 0, .int 0, .int 0, .null, .int 0, .int 0, .null, .null, .int 0, .int 0, .null, .int 0, .int 0, .int 0, .int 0])), (q1, eI G 940 (fun _ => 0)), (q2, eI G 339 (fun _ => 0)), (q3, eI G 64 (fun _ => 0)), (q4, eI G 678 (fun _ => 0)), (q5, eI G 264 (fun _ => 0)), (q6, eI G 33 (fun _ => 0)), (q7, eJ G 14 (fun _ => 0)), (q8, eJ G 14 (fun _ => 0)), (q9, eJ G 28 (fun _ => 0)), (q10, eZ G 2 (fun _ => 0)), (q11, eZ G 3 (fun _ => 0))]) C hw iwX11 tyX11_ok nmX11 B.2.2.2 10 rfl 0 rfl 23 (by decide) kw1220 rfl rfl rfl rfl (Nat.le_of_ble_eq_true rfl) rfl dX11_init_91 (fun H locs hw => ?_)
  refine lv_aload_n C.1 C.2.1 dX11_init_94 rfl (lv_at hl 0 rfl) ?_
  refine lv_bipush (v := 6) C.1 C.2.1 dX11_init_95 (by decide) ?_
  refine x_newa (a0 := (6, .inl (fun _ => 0))) (N := 6) C hw (atype := .int) rfl 2 rfl kw230 (fun _ => rfl) (by decide) (by decide) (Nat.le_of_ble_eq_true rfl) (Nat.le_of_ble_eq_true rfl) (Nat.le_of_ble_eq_true rfl) dX11_init_97 (fun q12 H hw => ?_)
  have hw : Wd G s A [(qm, .inr (10, [.int 0, .ref q1, .int 0, .int 0, .int 0, .int 0, .int 0, .int 0, .int 0, .int 0, .int 0, .int 0, .long 0, .int 0, .ref q2, .ref q3, .ref q4, .ref q5, .ref q6, .ref q7, .ref q8, .ref q9, .ref q10, .ref q11, .int 0, .null, .null, .int 0, .int 0, .int 0, .int 0, .int 0, .null, .int 0, .int 0, .null, .null, .int 0, .int 0, .null, .int 0, .int 0, .int 0, .int 0])), (q1, eI G 940 (fun _ => 0)), (q2, eI G 339 (fun _ => 0)), (q3, eI G 64 (fun _ => 0)), (q4, eI G 678 (fun _ => 0)), (q5, eI G 264 (fun _ => 0)), (q6, eI G 33 (fun _ => 0)), (q7, eJ G 14 (fun _ => 0)), (q8, eJ G 14 (fun _ => 0)), (q9, eJ G 28 (fun _ => 0)), (q10, eZ G 2 (fun _ => 0)), (q11, eZ G 3 (fun _ => 0)), (q12, eI G 6 (fun _ => 0))] H _ := hw
  refine W.widen (k := 12) (n := 2385) (Nat.le_of_ble_eq_true rfl) (Nat.le_of_ble_eq_true rfl) ?_
  refine x_putF (w' := [(qm, .inr (10, [.int 0, .ref q1, .int 0, .int 0, .int 0, .int 0, .int 0, .int 0, .int 0, .int 0, .int 0, .int 0, .long 0, .int 0, .ref q2, .ref q3, .ref q4, .ref q5, .ref q6, .ref q7, .ref q8, .ref q9, .ref q10, .ref q11, .int 0, .ref q12, .null, .int 0, .int 0, .int 0, .int 0, .int 0, .null, .int 0, .int 0, .null, .null, .int 0, .int 0, .null, .int 0, .int 0, .int 0, .int 0])), (q1, eI G 940 (fun _ => 0)), (q2, eI G 339 (fun _ => 0)), (q3, eI G 64 (fun _ => 0)), (q4, eI G 678 (fun _ => 0)), (q5, eI G 264 (fun _ => 0)), (q6, eI G 33 (fun _ => 0)), (q7, eJ G 14 (fun _ => 0)), (q8, eJ G 14 (fun _ => 0)), (q9, eJ G 28 (fun _ => 0)), (q10, eZ G 2 (fun _ => 0)), (q11, eZ G 3 (fun _ => 0)), (q12, eI G 6 (fun _ => 0))]) C hw iwX11 tyX11_ok nmX11 B.2.2.2 10 rfl 0 rfl 25 (by decide) kw1222 rfl rfl rfl rfl (Nat.le_of_ble_eq_true rfl) rfl dX11_init_99 (fun H locs hw => ?_)
  refine lv_aload_n C.1 C.2.1 dX11_init_102 rfl (lv_at hl 0 rfl) ?_
  refine lv_bipush (v := 6) C.1 C.2.1 dX11_init_103 (by decide) ?_
  refine x_newa (a0 := (6, .inl (fun _ => 0))) (N := 6) C hw (atype := .int) rfl 2 rfl kw230 (fun _ => rfl) (by decide) (by decide) (Nat.le_of_ble_eq_true rfl) (Nat.le_of_ble_eq_true rfl) (Nat.le_of_ble_eq_true rfl) dX11_init_105 (fun q13 H hw => ?_)
  have hw : Wd G s A [(qm, .inr (10, [.int 0, .ref q1, .int 0, .int 0, .int 0, .int 0, .int 0, .int 0, .int 0, .int 0, .int 0, .int 0, .long 0, .int 0, .ref q2, .ref q3, .ref q4, .ref q5, .ref q6, .ref q7, .ref q8, .ref q9, .ref q10, .ref q11, .int 0, .ref q12, .null, .int 0, .int 0, .int 0, .int 0, .int 0, .null, .int 0, .int 0, .null, .null, .int 0, .int 0, .null, .int 0, .int 0, .int 0, .int 0])), (q1, eI G 940 (fun _ => 0)), (q2, eI G 339 (fun _ => 0)), (q3, eI G 64 (fun _ => 0)), (q4, eI G 678 (fun _ => 0)), (q5, eI G 264 (fun _ => 0)), (q6, eI G 33 (fun _ => 0)), (q7, eJ G 14 (fun _ => 0)), (q8, eJ G 14 (fun _ => 0)), (q9, eJ G 28 (fun _ => 0)), (q10, eZ G 2 (fun _ => 0)), (q11, eZ G 3 (fun _ => 0)), (q12, eI G 6 (fun _ => 0)), (q13, eI G 6 (fun _ => 0))] H _ := hw
  refine W.widen (k := 13) (n := 2391) (Nat.le_of_ble_eq_true rfl) (Nat.le_of_ble_eq_true rfl) ?_
  refine x_putF (w' := [(qm, .inr (10, [.int 0, .ref q1, .int 0, .int 0, .int 0, .int 0, .int 0, .int 0, .int 0, .int 0, .int 0, .int 0, .long 0, .int 0, .ref q2, .ref q3, .ref q4, .ref q5, .ref q6, .ref q7, .ref q8, .ref q9, .ref q10, .ref q11, .int 0, .ref q12, .ref q13, .int 0, .int 0, .int 0, .int 0, .int 0, .null, .int 0, .int 0, .null, .null, .int 0, .int 0, .null, .int 0, .int 0, .int 0, .int 0])), (q1, eI G 940 (fun _ => 0)), (q2, eI G 339 (fun _ => 0)), (q3, eI G 64 (fun _ => 0)), (q4, eI G 678 (fun _ => 0)), (q5, eI G 264 (fun _ => 0)), (q6, eI G 33 (fun _ => 0)), (q7, eJ G 14 (fun _ => 0)), (q8, eJ G 14 (fun _ => 0)), (q9, eJ G 28 (fun _ => 0)), (q10, eZ G 2 (fun _ => 0)), (q11, eZ G 3 (fun _ => 0)), (q12, eI G 6 (fun _ => 0)), (q13, eI G 6 (fun _ => 0))]) C hw iwX11 tyX11_ok nmX11 B.2.2.2 10 rfl 0 rfl 26 (by decide) kw1223 rfl rfl rfl rfl (Nat.le_of_ble_eq_true rfl) rfl dX11_init_107 (fun H locs hw => ?_)
  refine lv_aload_n C.1 C.2.1 dX11_init_110 rfl (lv_at hl 0 rfl) ?_
  refine lv_iconst (v := (-1)) C.1 C.2.1 dX11_init_111 (by decide) ?_
  refine x_put (w' := [(qm, .inr (10, [.int 0, .ref q1, .int 0, .int 0, .int 0, .int 0, .int 0, .int 0, .int 0, .int 0, .int 0, .int 0, .long 0, .int 0, .ref q2, .ref q3, .ref q4, .ref q5, .ref q6, .ref q7, .ref q8, .ref q9, .ref q10, .ref q11, .int 0, .ref q12, .ref q13, .int 0, .int 0, .int 0, .int (-1), .int 0, .null, .int 0, .int 0, .null, .null, .int 0, .int 0, .null, .int 0, .int 0, .int 0, .int 0])), (q1, eI G 940 (fun _ => 0)), (q2, eI G 339 (fun _ => 0)), (q3, eI G 64 (fun _ => 0)), (q4, eI G 678 (fun _ => 0)), (q5, eI G 264 (fun _ => 0)), (q6, eI G 33 (fun _ => 0)), (q7, eJ G 14 (fun _ => 0)), (q8, eJ G 14 (fun _ => 0)), (q9, eJ G 28 (fun _ => 0)), (q10, eZ G 2 (fun _ => 0)), (q11, eZ G 3 (fun _ => 0)), (q12, eI G 6 (fun _ => 0)), (q13, eI G 6 (fun _ => 0))]) C hw iwX11 tyX11_ok nmX11 10 rfl 0 rfl 30 (by decide) kw1227 rfl rfl rfl (Nat.le_of_ble_eq_true rfl) rfl dX11_init_112 (fun H locs hw => ?_)
  refine lv_aload_n C.1 C.2.1 dX11_init_115 rfl (lv_at hl 0 rfl) ?_
  refine lv_iconst (v := (-1)) C.1 C.2.1 dX11_init_116 (by decide) ?_
  refine x_put (w' := [(qm, .inr (10, [.int 0, .ref q1, .int 0, .int 0, .int 0, .int 0, .int 0, .int 0, .int 0, .int 0, .int 0, .int 0, .long 0, .int 0, .ref q2, .ref q3, .ref q4, .ref q5, .ref q6, .ref q7, .ref q8, .ref q9, .ref q10, .ref q11, .int 0, .ref q12, .ref q13, .int 0, .int 0, .int 0, .int (-1), .int (-1), .null, .int 0, .int 0, .null, .null, .int 0, .int 0, .null, .int 0, .int 0, .int 0, .int 0])), (q1, eI G 940 (fun _ => 0)), (q2, eI G 339 (fun _ => 0)), (q3, eI G 64 (fun _ => 0)), (q4, eI G 678 (fun _ => 0)), (q5, eI G 264 (fun _ => 0)), (q6, eI G 33 (fun _ => 0)), (q7, eJ G 14 (fun _ => 0)), (q8, eJ G 14 (fun _ => 0)), (q9, eJ G 28 (fun _ => 0)), (q10, eZ G 2 (fun _ => 0)), (q11, eZ G 3 (fun _ => 0)), (q12, eI G 6 (fun _ => 0)), (q13, eI G 6 (fun _ => 0))]) C hw iwX11 tyX11_ok nmX11 10 rfl 0 rfl 31 (by decide) kw1228 rfl rfl rfl (Nat.le_of_ble_eq_true rfl) rfl dX11_init_117 (fun H locs hw => ?_)
  refine lv_aload_n C.1 C.2.1 dX11_init_120 rfl (lv_at hl 0 rfl) ?_
  refine lv_bipush (v := 64) C.1 C.2.1 dX11_init_121 (by decide) ?_
  refine x_newa (a0 := (64, .inl (fun _ => 0))) (N := 64) C hw (atype := .int) rfl 2 rfl kw230 (fun _ => rfl) (by decide) (by decide) (Nat.le_of_ble_eq_true rfl) (Nat.le_of_ble_eq_true rfl) (Nat.le_of_ble_eq_true rfl) dX11_init_123 (fun q14 H hw => ?_)
  have hw : Wd G s A [(qm, .inr (10, [.int 0, .ref q1, .int 0, .int 0, .int 0, .int 0, .int 0, .int 0, .int 0, .int 0, .int 0, .int 0, .long 0, .int 0, .ref q2, .ref q3, .ref q4, .ref q5, .ref q6, .ref q7, .ref q8, .ref q9, .ref q10, .ref q11, .int 0, .ref q12, .ref q13, .int 0, .int 0, .int 0, .int (-1), .int (-1), .null, .int 0, .int 0, .null, .null, .int 0, .int 0, .null, .int 0, .int 0, .int 0, .int 0])), (q1, eI G 940 (fun _ => 0)), (q2, eI G 339 (fun _ => 0)), (q3, eI G 64 (fun _ => 0)), (q4, eI G 678 (fun _ => 0)), (q5, eI G 264 (fun _ => 0)), (q6, eI G 33 (fun _ => 0)), (q7, eJ G 14 (fun _ => 0)), (q8, eJ G 14 (fun _ => 0)), (q9, eJ G 28 (fun _ => 0)), (q10, eZ G 2 (fun _ => 0)), (q11, eZ G 3 (fun _ => 0)), (q12, eI G 6 (fun _ => 0)), (q13, eI G 6 (fun _ => 0)), (q14, eI G 64 (fun _ => 0))] H _ := hw
  refine W.widen (k := 14) (n := 2455) (Nat.le_of_ble_eq_true rfl) (Nat.le_of_ble_eq_true rfl) ?_
  refine x_putF (w' := [(qm, .inr (10, [.int 0, .ref q1, .int 0, .int 0, .int 0, .int 0, .int 0, .int 0, .int 0, .int 0, .int 0, .int 0, .long 0, .int 0, .ref q2, .ref q3, .ref q4, .ref q5, .ref q6, .ref q7, .ref q8, .ref q9, .ref q10, .ref q11, .int 0, .ref q12, .ref q13, .int 0, .int 0, .int 0, .int (-1), .int (-1), .ref q14, .int 0, .int 0, .null, .null, .int 0, .int 0, .null, .int 0, .int 0, .int 0, .int 0])), (q1, eI G 940 (fun _ => 0)), (q2, eI G 339 (fun _ => 0)), (q3, eI G 64 (fun _ => 0)), (q4, eI G 678 (fun _ => 0)), (q5, eI G 264 (fun _ => 0)), (q6, eI G 33 (fun _ => 0)), (q7, eJ G 14 (fun _ => 0)), (q8, eJ G 14 (fun _ => 0)), (q9, eJ G 28 (fun _ => 0)), (q10, eZ G 2 (fun _ => 0)), (q11, eZ G 3 (fun _ => 0)), (q12, eI G 6 (fun _ => 0)), (q13, eI G 6 (fun _ => 0)), (q14, eI G 64 (fun _ => 0))]) C hw iwX11 tyX11_ok nmX11 B.2.2.2 10 rfl 0 rfl 32 (by decide) kw1229 rfl rfl rfl rfl (Nat.le_of_ble_eq_true rfl) rfl dX11_init_125 (fun H locs hw => ?_)
  refine lv_aload_n C.1 C.2.1 dX11_init_128 rfl (lv_at hl 0 rfl) ?_
  refine lv_bipush (v := 120) C.1 C.2.1 dX11_init_129 (by decide) ?_
  refine x_newa (a0 := (120, .inl (fun _ => 0))) (N := 120) C hw (atype := .int) rfl 2 rfl kw230 (fun _ => rfl) (by decide) (by decide) (Nat.le_of_ble_eq_true rfl) (Nat.le_of_ble_eq_true rfl) (Nat.le_of_ble_eq_true rfl) dX11_init_131 (fun q15 H hw => ?_)
  have hw : Wd G s A [(qm, .inr (10, [.int 0, .ref q1, .int 0, .int 0, .int 0, .int 0, .int 0, .int 0, .int 0, .int 0, .int 0, .int 0, .long 0, .int 0, .ref q2, .ref q3, .ref q4, .ref q5, .ref q6, .ref q7, .ref q8, .ref q9, .ref q10, .ref q11, .int 0, .ref q12, .ref q13, .int 0, .int 0, .int 0, .int (-1), .int (-1), .ref q14, .int 0, .int 0, .null, .null, .int 0, .int 0, .null, .int 0, .int 0, .int 0, .int 0])), (q1, eI G 940 (fun _ => 0)), (q2, eI G 339 (fun _ => 0)), (q3, eI G 64 (fun _ => 0)), (q4, eI G 678 (fun _ => 0)), (q5, eI G 264 (fun _ => 0)), (q6, eI G 33 (fun _ => 0)), (q7, eJ G 14 (fun _ => 0)), (q8, eJ G 14 (fun _ => 0)), (q9, eJ G 28 (fun _ => 0)), (q10, eZ G 2 (fun _ => 0)), (q11, eZ G 3 (fun _ => 0)), (q12, eI G 6 (fun _ => 0)), (q13, eI G 6 (fun _ => 0)), (q14, eI G 64 (fun _ => 0)), (q15, eI G 120 (fun _ => 0))] H _ := hw
  refine W.widen (k := 15) (n := 2575) (Nat.le_of_ble_eq_true rfl) (Nat.le_of_ble_eq_true rfl) ?_
  refine x_putF (w' := [(qm, .inr (10, [.int 0, .ref q1, .int 0, .int 0, .int 0, .int 0, .int 0, .int 0, .int 0, .int 0, .int 0, .int 0, .long 0, .int 0, .ref q2, .ref q3, .ref q4, .ref q5, .ref q6, .ref q7, .ref q8, .ref q9, .ref q10, .ref q11, .int 0, .ref q12, .ref q13, .int 0, .int 0, .int 0, .int (-1), .int (-1), .ref q14, .int 0, .int 0, .ref q15, .null, .int 0, .int 0, .null, .int 0, .int 0, .int 0, .int 0])), (q1, eI G 940 (fun _ => 0)), (q2, eI G 339 (fun _ => 0)), (q3, eI G 64 (fun _ => 0)), (q4, eI G 678 (fun _ => 0)), (q5, eI G 264 (fun _ => 0)), (q6, eI G 33 (fun _ => 0)), (q7, eJ G 14 (fun _ => 0)), (q8, eJ G 14 (fun _ => 0)), (q9, eJ G 28 (fun _ => 0)), (q10, eZ G 2 (fun _ => 0)), (q11, eZ G 3 (fun _ => 0)), (q12, eI G 6 (fun _ => 0)), (q13, eI G 6 (fun _ => 0)), (q14, eI G 64 (fun _ => 0)), (q15, eI G 120 (fun _ => 0))]) C hw iwX11 tyX11_ok nmX11 B.2.2.2 10 rfl 0 rfl 35 (by decide) kw1232 rfl rfl rfl rfl (Nat.le_of_ble_eq_true rfl) rfl dX11_init_133 (fun H locs hw => ?_)
  refine lv_aload_n C.1 C.2.1 dX11_init_136 rfl (lv_at hl 0 rfl) ?_
  refine lv_iconst (v := 4) C.1 C.2.1 dX11_init_137 (by decide) ?_
  refine x_newa (a0 := (4, .inl (fun _ => 0))) (N := 4) C hw (atype := .int) rfl 2 rfl kw230 (fun _ => rfl) (by decide) (by decide) (Nat.le_of_ble_eq_true rfl) (Nat.le_of_ble_eq_true rfl) (Nat.le_of_ble_eq_true rfl) dX11_init_138 (fun q16 H hw => ?_)
  have hw : Wd G s A [(qm, .inr (10, [.int 0, .ref q1, .int 0, .int 0, .int 0, .int 0, .int 0, .int 0, .int 0, .int 0, .int 0, .int 0, .long 0, .int 0, .ref q2, .ref q3, .ref q4, .ref q5, .ref q6, .ref q7, .ref q8, .ref q9, .ref q10, .ref q11, .int 0, .ref q12, .ref q13, .int 0, .int 0, .int 0, .int (-1), .int (-1), .ref q14, .int 0, .int 0, .ref q15, .null, .int 0, .int 0, .null, .int 0, .int 0, .int 0, .int 0])), (q1, eI G 940 (fun _ => 0)), (q2, eI G 339 (fun _ => 0)), (q3, eI G 64 (fun _ => 0)), (q4, eI G 678 (fun _ => 0)), (q5, eI G 264 (fun _ => 0)), (q6, eI G 33 (fun _ => 0)), (q7, eJ G 14 (fun _ => 0)), (q8, eJ G 14 (fun _ => 0)), (q9, eJ G 28 (fun _ => 0)), (q10, eZ G 2 (fun _ => 0)), (q11, eZ G 3 (fun _ => 0)), (q12, eI G 6 (fun _ => 0)), (q13, eI G 6 (fun _ => 0)), (q14, eI G 64 (fun _ => 0)), (q15, eI G 120 (fun _ => 0)), (q16, eI G 4 (fun _ => 0))] H _ := hw
  refine W.widen (k := 16) (n := 2579) (Nat.le_of_ble_eq_true rfl) (Nat.le_of_ble_eq_true rfl) ?_
  refine x_putF (w' := [(qm, .inr (10, [.int 0, .ref q1, .int 0, .int 0, .int 0, .int 0, .int 0, .int 0, .int 0, .int 0, .int 0, .int 0, .long 0, .int 0, .ref q2, .ref q3, .ref q4, .ref q5, .ref q6, .ref q7, .ref q8, .ref q9, .ref q10, .ref q11, .int 0, .ref q12, .ref q13, .int 0, .int 0, .int 0, .int (-1), .int (-1), .ref q14, .int 0, .int 0, .ref q15, .ref q16, .int 0, .int 0, .null, .int 0, .int 0, .int 0, .int 0])), (q1, eI G 940 (fun _ => 0)), (q2, eI G 339 (fun _ => 0)), (q3, eI G 64 (fun _ => 0)), (q4, eI G 678 (fun _ => 0)), (q5, eI G 264 (fun _ => 0)), (q6, eI G 33 (fun _ => 0)), (q7, eJ G 14 (fun _ => 0)), (q8, eJ G 14 (fun _ => 0)), (q9, eJ G 28 (fun _ => 0)), (q10, eZ G 2 (fun _ => 0)), (q11, eZ G 3 (fun _ => 0)), (q12, eI G 6 (fun _ => 0)), (q13, eI G 6 (fun _ => 0)), (q14, eI G 64 (fun _ => 0)), (q15, eI G 120 (fun _ => 0)), (q16, eI G 4 (fun _ => 0))]) C hw iwX11 tyX11_ok nmX11 B.2.2.2 10 rfl 0 rfl 36 (by decide) kw1233 rfl rfl rfl rfl (Nat.le_of_ble_eq_true rfl) rfl dX11_init_140 (fun H locs hw => ?_)
  refine lv_aload_n C.1 C.2.1 dX11_init_143 rfl (lv_at hl 0 rfl) ?_
  refine lv_sipush (v := 240) C.1 C.2.1 dX11_init_144 (by decide) ?_
  refine x_newa (a0 := (240, .inl (fun _ => 0))) (N := 240) C hw (atype := .int) rfl 2 rfl kw230 (fun _ => rfl) (by decide) (by decide) (Nat.le_of_ble_eq_true rfl) (Nat.le_of_ble_eq_true rfl) (Nat.le_of_ble_eq_true rfl) dX11_init_147 (fun q17 H hw => ?_)
  have hw : Wd G s A [(qm, .inr (10, [.int 0, .ref q1, .int 0, .int 0, .int 0, .int 0, .int 0, .int 0, .int 0, .int 0, .int 0, .int 0, .long 0, .int 0, .ref q2, .ref q3, .ref q4, .ref q5, .ref q6, .ref q7, .ref q8, .ref q9, .ref q10, .ref q11, .int 0, .ref q12, .ref q13, .int 0, .int 0, .int 0, .int (-1), .int (-1), .ref q14, .int 0, .int 0, .ref q15, .ref q16, .int 0, .int 0, .null, .int 0, .int 0, .int 0, .int 0])), (q1, eI G 940 (fun _ => 0)), (q2, eI G 339 (fun _ => 0)), (q3, eI G 64 (fun _ => 0)), (q4, eI G 678 (fun _ => 0)), (q5, eI G 264 (fun _ => 0)), (q6, eI G 33 (fun _ => 0)), (q7, eJ G 14 (fun _ => 0)), (q8, eJ G 14 (fun _ => 0)), (q9, eJ G 28 (fun _ => 0)), (q10, eZ G 2 (fun _ => 0)), (q11, eZ G 3 (fun _ => 0)), (q12, eI G 6 (fun _ => 0)), (q13, eI G 6 (fun _ => 0)), (q14, eI G 64 (fun _ => 0)), (q15, eI G 120 (fun _ => 0)), (q16, eI G 4 (fun _ => 0)), (q17, eI G 240 (fun _ => 0))] H _ := hw
  refine W.widen (k := 17) (n := 2819) (Nat.le_of_ble_eq_true rfl) (Nat.le_of_ble_eq_true rfl) ?_
  refine x_putF (w' := [(qm, .inr (10, [.int 0, .ref q1, .int 0, .int 0, .int 0, .int 0, .int 0, .int 0, .int 0, .int 0, .int 0, .int 0, .long 0, .int 0, .ref q2, .ref q3, .ref q4, .ref q5, .ref q6, .ref q7, .ref q8, .ref q9, .ref q10, .ref q11, .int 0, .ref q12, .ref q13, .int 0, .int 0, .int 0, .int (-1), .int (-1), .ref q14, .int 0, .int 0, .ref q15, .ref q16, .int 0, .int 0, .ref q17, .int 0, .int 0, .int 0, .int 0])), (q1, eI G 940 (fun _ => 0)), (q2, eI G 339 (fun _ => 0)), (q3, eI G 64 (fun _ => 0)), (q4, eI G 678 (fun _ => 0)), (q5, eI G 264 (fun _ => 0)), (q6, eI G 33 (fun _ => 0)), (q7, eJ G 14 (fun _ => 0)), (q8, eJ G 14 (fun _ => 0)), (q9, eJ G 28 (fun _ => 0)), (q10, eZ G 2 (fun _ => 0)), (q11, eZ G 3 (fun _ => 0)), (q12, eI G 6 (fun _ => 0)), (q13, eI G 6 (fun _ => 0)), (q14, eI G 64 (fun _ => 0)), (q15, eI G 120 (fun _ => 0)), (q16, eI G 4 (fun _ => 0)), (q17, eI G 240 (fun _ => 0))]) C hw iwX11 tyX11_ok nmX11 B.2.2.2 10 rfl 0 rfl 39 (by decide) kw1236 rfl rfl rfl rfl (Nat.le_of_ble_eq_true rfl) rfl dX11_init_149 (fun H locs hw => ?_)
  refine lv_aload_n C.1 C.2.1 dX11_init_152 rfl (lv_at hl 0 rfl) ?_
  refine x_callvV (As := []) (rest := []) (wr := [(q1, eI G 940 (fun _ => 0)), (q2, eI G 339 (fun _ => 0)), (q4, eI G 678 (fun _ => 0)), (q5, eI G 264 (fun _ => 0)), (q6, eI G 33 (fun _ => 0)), (q7, eJ G 14 (fun _ => 0)), (q8, eJ G 14 (fun _ => 0)), (q9, eJ G 28 (fun _ => 0)), (q10, eZ G 2 (fun _ => 0)), (q12, eI G 6 (fun _ => 0)), (q13, eI G 6 (fun _ => 0)), (q14, eI G 64 (fun _ => 0)), (q15, eI G 120 (fun _ => 0)), (q16, eI G 4 (fun _ => 0)), (q17, eI G 240 (fun _ => 0))]) C hw (c_X11_startRead0 qm q1 q2 q3 q4 q5 q6 q7 q8 q9 q10 q11 q12 q13 q14 q15 q16 q17) mwX11_startRead kw1193 [0, 3, 11] [1, 2, 4, 5, 6, 7, 8, 9, 10, 12, 13, 14, 15, 16, 17] rfl rfl rfl rfl (by decide) 0 rfl rfl rfl rfl hl.1 rfl (Nat.le_of_ble_eq_true rfl) ⟨(Nat.le_of_ble_eq_true rfl), (Nat.le_of_ble_eq_true rfl)⟩ ⟨(Nat.le_of_ble_eq_true rfl), (Nat.le_of_ble_eq_true rfl)⟩ dX11_init_153 (fun  u9 H locs hp9 hw => ?_)
  obtain rfl := hp9
  have hw : Wd G s A [(q1, eI G 940 (fun _ => 0)), (q2, eI G 339 (fun _ => 0)), (q4, eI G 678 (fun _ => 0)), (q5, eI G 264 (fun _ => 0)), (q6, eI G 33 (fun _ => 0)), (q7, eJ G 14 (fun _ => 0)), (q8, eJ G 14 (fun _ => 0)), (q9, eJ G 28 (fun _ => 0)), (q10, eZ G 2 (fun _ => 0)), (q12, eI G 6 (fun _ => 0)), (q13, eI G 6 (fun _ => 0)), (q14, eI G 64 (fun _ => 0)), (q15, eI G 120 (fun _ => 0)), (q16, eI G 4 (fun _ => 0)), (q17, eI G 240 (fun _ => 0)), (qm, .inr (10, [.int 0, .ref q1, .int 0, .int 0, .int 0, .int 0, .int 0, .int 0, .int 0, .int 0, .int 0, .int 0, .long 0, .int 0, .ref q2, .ref q3, .ref q4, .ref q5, .ref q6, .ref q7, .ref q8, .ref q9, .ref q10, .ref q11, .int 0, .ref q12, .ref q13, .int 0, .int 0, .int 0, .int (-1), .int (-1), .ref q14, .int 0, .int 0, .ref q15, .ref q16, .int 0, .int 0, .ref q17, .int 0, .int 0, .int 0, .int 0])), (q3, eI G 64 rd0), (q11, eZ G 3 (fun _ => 0))] H _ := hw
  refine lv_iconst (v := 0) C.1 C.2.1 dX11_init_156 (by decide) ?_
  refine lv_istore_n (lv' := [(1, .int 0), (0, .ref qm)]) C.1 C.2.1 dX11_init_157 rfl hl (by decide) rfl (fun ls hl => ?_)
  have loop158 : ∀ (n9 : Nat) (k9 : Nat), 64 - k9 < n9 → k9 ≤ 64 → ∀ (H : Heap) (locs : List Loc) (ls : Array Slot), Wd G s A [(q1, eI G 940 (fun _ => 0)), (q2, eI G 339 (va_cpy rd0 (fun _ => 0) 0 0 k9)), (q4, eI G 678 (fun _ => 0)), (q5, eI G 264 (fun _ => 0)), (q6, eI G 33 (fun _ => 0)), (q7, eJ G 14 (fun _ => 0)), (q8, eJ G 14 (fun _ => 0)), (q9, eJ G 28 (fun _ => 0)), (q10, eZ G 2 (fun _ => 0)), (q12, eI G 6 (fun _ => 0)), (q13, eI G 6 (fun _ => 0)), (q14, eI G 64 (fun _ => 0)), (q15, eI G 120 (fun _ => 0)), (q16, eI G 4 (fun _ => 0)), (q17, eI G 240 (fun _ => 0)), (qm, .inr (10, [.int 0, .ref q1, .int 0, .int 0, .int 0, .int 0, .int 0, .int 0, .int 0, .int 0, .int 0, .int 0, .long 0, .int 0, .ref q2, .ref q3, .ref q4, .ref q5, .ref q6, .ref q7, .ref q8, .ref q9, .ref q10, .ref q11, .int 0, .ref q12, .ref q13, .int 0, .int 0, .int 0, .int (-1), .int (-1), .ref q14, .int 0, .int 0, .ref q15, .ref q16, .int 0, .int 0, .ref q17, .int 0, .int 0, .int 0, .int 0])), (q3, eI G 64 rd0), (q11, eZ G 3 (fun _ => 0))] H locs → lv_has ls 2 [(1, .int (nI k9)), (0, .ref qm)] → W p l e (rmD 1 17 2819) s m [.ref qm].toArray below meth c H locs 17 2819 (MQ below (va_Qv (fun (u9 : va_W) => ∃ (mtape : Nat) (mnow : Nat) (mread : Nat) (mkept : Nat) (msnaps : Nat) (maside : Nat) (mname : Nat) (mreadName : Nat) (mkeptName : Nat) (misKept : Nat) (monces : Nat) (morder : Nat) (mordered : Nat) (mtext : Nat) (mline : Nat) (mwritten : Nat) (mnode : Nat), u9 = [(qm, .inr (10, [.int 0, .ref mtape, .int 0, .int 0, .int 0, .int 0, .int 0, .int 0, .int 0, .int 0, .int 0, .int 0, .long 0, .int 0, .ref mnow, .ref mread, .ref mkept, .ref msnaps, .ref maside, .ref mname, .ref mreadName, .ref mkeptName, .ref misKept, .ref monces, .int 0, .ref morder, .ref mordered, .int 0, .int 0, .int 0, .int (-1), .int (-1), .ref mtext, .int 0, .int 0, .ref mline, .ref mwritten, .int 0, .int 0, .ref mnode, .int 0, .int 0, .int 0, .int 0])), (mtape, eI G 940 (fun _ => 0)), (mnow, eI G 339 nw0), (mread, eI G 64 rd0), (mkept, eI G 678 (fun _ => 0)), (msnaps, eI G 264 (fun _ => 0)), (maside, eI G 33 (fun _ => 0)), (mname, eJ G 14 (fun _ => 0)), (mreadName, eJ G 14 (fun _ => 0)), (mkeptName, eJ G 28 (fun _ => 0)), (misKept, eZ G 2 (fun _ => 0)), (monces, eZ G 3 (fun _ => 0)), (morder, eI G 6 (fun _ => 0)), (mordered, eI G 6 (fun _ => 0)), (mtext, eI G 64 (fun _ => 0)), (mline, eI G 120 (fun _ => 0)), (mwritten, eI G 4 (fun _ => 0)), (mnode, eI G 240 (fun _ => 0))]) (mB G A) A) [.ref qm].toArray s 17 2819 A) (F0 m 158 ls []) := by
    intro n9
    induction n9 with
    | zero => intro k9 h9; exact absurd h9 (Nat.not_lt_zero _)
    | succ n9 ih =>
      intro k9 h9 hi158 H locs ls hw hl
      refine lv_iload_n C.1 C.2.1 dX11_init_158 rfl (lv_at hl 0 rfl) ?_
      refine lv_bipush (v := 64) C.1 C.2.1 dX11_init_159 (by decide) ?_
      refine lv_icmp_ge (tgt := 182) C.1 C.2.1 dX11_init_161 (by decide) (fun c_161 => ?_) (fun c_161 => ?_)
      · skip
        have ek : k9 = 64 := x_geN hi158 c_161 (by decide) (by decide)
        subst ek
        have hw := hw.sub (w' := [(qm, .inr (10, [.int 0, .ref q1, .int 0, .int 0, .int 0, .int 0, .int 0, .int 0, .int 0, .int 0, .int 0, .int 0, .long 0, .int 0, .ref q2, .ref q3, .ref q4, .ref q5, .ref q6, .ref q7, .ref q8, .ref q9, .ref q10, .ref q11, .int 0, .ref q12, .ref q13, .int 0, .int 0, .int 0, .int (-1), .int (-1), .ref q14, .int 0, .int 0, .ref q15, .ref q16, .int 0, .int 0, .ref q17, .int 0, .int 0, .int 0, .int 0])), (q1, eI G 940 (fun _ => 0)), (q2, eI G 339 nw0), (q3, eI G 64 rd0), (q4, eI G 678 (fun _ => 0)), (q5, eI G 264 (fun _ => 0)), (q6, eI G 33 (fun _ => 0)), (q7, eJ G 14 (fun _ => 0)), (q8, eJ G 14 (fun _ => 0)), (q9, eJ G 28 (fun _ => 0)), (q10, eZ G 2 (fun _ => 0)), (q11, eZ G 3 (fun _ => 0)), (q12, eI G 6 (fun _ => 0)), (q13, eI G 6 (fun _ => 0)), (q14, eI G 64 (fun _ => 0)), (q15, eI G 120 (fun _ => 0)), (q16, eI G 4 (fun _ => 0)), (q17, eI G 240 (fun _ => 0))]) [15, 0, 1, 16, 2, 3, 4, 5, 6, 7, 8, 17, 9, 10, 11, 12, 13, 14] rfl rfl
        exact x_retv B hw ⟨q1, q2, q3, q4, q5, q6, q7, q8, q9, q10, q11, q12, q13, q14, q15, q16, q17, rfl⟩ (Nat.le_of_ble_eq_true rfl) (Nat.le_of_ble_eq_true rfl) dX11_init_182
      · skip
        have hk161 : k9 < 64 := x_ltN hi158 c_161 (by decide)
        refine lv_aload_n C.1 C.2.1 dX11_init_164 rfl (lv_at hl 1 rfl) ?_
        refine x_get C hw iwX11 10 rfl 15 rfl 14 (by decide) kw1211 rfl dX11_init_165 ?_
        refine lv_iload_n C.1 C.2.1 dX11_init_168 rfl (lv_at hl 0 rfl) ?_
        refine lv_aload_n C.1 C.2.1 dX11_init_169 rfl (lv_at hl 1 rfl) ?_
        refine x_get C hw iwX11 10 rfl 15 rfl 15 (by decide) kw1212 rfl dX11_init_170 ?_
        refine lv_iload_n C.1 C.2.1 dX11_init_173 rfl (lv_at hl 0 rfl) ?_
        refine x_iald (v := (rd0 (nI k9).toNatClampNeg)) C hw 16 rfl (vp_in_nI hk161 (by decide)) rfl dX11_init_174 ?_
        refine x_iast (f' := (va_cpy rd0 (fun _ => 0) 0 0 (k9 + 1))) (w' := [(q1, eI G 940 (fun _ => 0)), (q2, eI G 339 (va_cpy rd0 (fun _ => 0) 0 0 (k9 + 1))), (q4, eI G 678 (fun _ => 0)), (q5, eI G 264 (fun _ => 0)), (q6, eI G 33 (fun _ => 0)), (q7, eJ G 14 (fun _ => 0)), (q8, eJ G 14 (fun _ => 0)), (q9, eJ G 28 (fun _ => 0)), (q10, eZ G 2 (fun _ => 0)), (q12, eI G 6 (fun _ => 0)), (q13, eI G 6 (fun _ => 0)), (q14, eI G 64 (fun _ => 0)), (q15, eI G 120 (fun _ => 0)), (q16, eI G 4 (fun _ => 0)), (q17, eI G 240 (fun _ => 0)), (qm, .inr (10, [.int 0, .ref q1, .int 0, .int 0, .int 0, .int 0, .int 0, .int 0, .int 0, .int 0, .int 0, .int 0, .long 0, .int 0, .ref q2, .ref q3, .ref q4, .ref q5, .ref q6, .ref q7, .ref q8, .ref q9, .ref q10, .ref q11, .int 0, .ref q12, .ref q13, .int 0, .int 0, .int 0, .int (-1), .int (-1), .ref q14, .int 0, .int 0, .ref q15, .ref q16, .int 0, .int 0, .ref q17, .int 0, .int 0, .int 0, .int 0])), (q3, eI G 64 rd0), (q11, eZ G 3 (fun _ => 0))]) C hw 1 rfl (vp_in_nI (by omega) (by decide)) (x_cpyN (by omega)) rfl dX11_init_175 (fun H locs hw => ?_)
        refine lv_iinc (v := (nI (k9 + 1))) (lv' := [(1, .int (nI (k9 + 1))), (0, .ref qm)]) C.1 C.2.1 dX11_init_176 hl (k := 0) rfl (nI_1 k9) (by decide) rfl (fun ls hl => ?_)
        refine lv_goto (tgt := 158) C.1 C.2.1 dX11_init_179 (by decide) ?_
        exact ih (k9 + 1) (by omega) hk161 _ _ _ hw (lv_sub hl [0, 1] rfl)
  exact loop158 _ 0 (Nat.lt_succ_self _) (Nat.zero_le _) _ _ _ (by rw [x_cpyZ]; exact hw) (lv_sub hl [0, 1] rfl)
end
