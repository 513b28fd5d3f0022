section
-- ===== PART A: goes FIRST, ahead of the names: the tables' words, and 'selects' of the private methods out of them =====
/-- a private method of a class that the tables say can be made, by its rows of tables_1 -/
def lw_okq (q : MethodName × Nat) : Prop := (q.1.cls ≠ "java/lang/invoke/MethodHandle" ∧ q.1.cls ≠ "java/lang/invoke/VarHandle") ∧ Cond.instantiable q.1.cls q.2 ∈ tables_1 ∧ Cond.privateMethod q.1 ∈ tables_1 ∧ Cond.instanceMethod q.1 ∈ tables_1
theorem lw_p0 : lw_okq (⟨"FarPost", "finding", "(I)I"⟩, 9) := ⟨⟨by decide +kernel, by decide +kernel⟩, List.mem_of_getElem? (i := 17) (by decide +kernel), List.mem_of_getElem? (i := 218) (by decide +kernel), List.mem_of_getElem? (i := 219) (by decide +kernel)⟩
theorem lw_p1 : lw_okq (⟨"FarPost", "counting", "()I"⟩, 9) := ⟨⟨by decide +kernel, by decide +kernel⟩, List.mem_of_getElem? (i := 17) (by decide +kernel), List.mem_of_getElem? (i := 279) (by decide +kernel), List.mem_of_getElem? (i := 280) (by decide +kernel)⟩
theorem lw_p2 : lw_okq (⟨"FarPost", "canHold", "(I)Z"⟩, 9) := ⟨⟨by decide +kernel, by decide +kernel⟩, List.mem_of_getElem? (i := 17) (by decide +kernel), List.mem_of_getElem? (i := 304) (by decide +kernel), List.mem_of_getElem? (i := 305) (by decide +kernel)⟩
theorem lw_p3 : lw_okq (⟨"FarPost", "drawChart", "(II)V"⟩, 9) := ⟨⟨by decide +kernel, by decide +kernel⟩, List.mem_of_getElem? (i := 17) (by decide +kernel), List.mem_of_getElem? (i := 308) (by decide +kernel), List.mem_of_getElem? (i := 309) (by decide +kernel)⟩
theorem lw_p4 : lw_okq (⟨"FarPost$Chart", "limit", "(III)V"⟩, 2) := ⟨⟨by decide +kernel, by decide +kernel⟩, List.mem_of_getElem? (i := 112) (by decide +kernel), List.mem_of_getElem? (i := 324) (by decide +kernel), List.mem_of_getElem? (i := 325) (by decide +kernel)⟩
theorem lw_p5 : lw_okq (⟨"FarPost", "fewestOut", "(II)I"⟩, 9) := ⟨⟨by decide +kernel, by decide +kernel⟩, List.mem_of_getElem? (i := 17) (by decide +kernel), List.mem_of_getElem? (i := 403) (by decide +kernel), List.mem_of_getElem? (i := 404) (by decide +kernel)⟩
theorem lw_p6 : lw_okq (⟨"FarPost", "startGuess", "(I)V"⟩, 9) := ⟨⟨by decide +kernel, by decide +kernel⟩, List.mem_of_getElem? (i := 17) (by decide +kernel), List.mem_of_getElem? (i := 449) (by decide +kernel), List.mem_of_getElem? (i := 450) (by decide +kernel)⟩
theorem lw_p7 : lw_okq (⟨"FarPost", "guessFits", "()Z"⟩, 9) := ⟨⟨by decide +kernel, by decide +kernel⟩, List.mem_of_getElem? (i := 17) (by decide +kernel), List.mem_of_getElem? (i := 457) (by decide +kernel), List.mem_of_getElem? (i := 458) (by decide +kernel)⟩
theorem lw_p8 : lw_okq (⟨"FarPost$Tape", "step", "()V"⟩, 5) := ⟨⟨by decide +kernel, by decide +kernel⟩, List.mem_of_getElem? (i := 128) (by decide +kernel), List.mem_of_getElem? (i := 518) (by decide +kernel), List.mem_of_getElem? (i := 519) (by decide +kernel)⟩
theorem lw_p9 : lw_okq (⟨"FarPost$Tape", "readItem", "(LFarPost$Office;)Z"⟩, 5) := ⟨⟨by decide +kernel, by decide +kernel⟩, List.mem_of_getElem? (i := 128) (by decide +kernel), List.mem_of_getElem? (i := 525) (by decide +kernel), List.mem_of_getElem? (i := 526) (by decide +kernel)⟩
theorem lw_p10 : lw_okq (⟨"FarPost$Tape", "isWord", "(Ljava/lang/String;)Z"⟩, 5) := ⟨⟨by decide +kernel, by decide +kernel⟩, List.mem_of_getElem? (i := 128) (by decide +kernel), List.mem_of_getElem? (i := 530) (by decide +kernel), List.mem_of_getElem? (i := 531) (by decide +kernel)⟩
theorem lw_p11 : lw_okq (⟨"FarPost$Tape", "readLaw", "(LFarPost$Office;)Z"⟩, 5) := ⟨⟨by decide +kernel, by decide +kernel⟩, List.mem_of_getElem? (i := 128) (by decide +kernel), List.mem_of_getElem? (i := 583) (by decide +kernel), List.mem_of_getElem? (i := 584) (by decide +kernel)⟩
theorem lw_p12 : lw_okq (⟨"FarPost$Tape", "numberTold", "(I)I"⟩, 5) := ⟨⟨by decide +kernel, by decide +kernel⟩, List.mem_of_getElem? (i := 128) (by decide +kernel), List.mem_of_getElem? (i := 587) (by decide +kernel), List.mem_of_getElem? (i := 588) (by decide +kernel)⟩
theorem lw_p13 : lw_okq (⟨"FarPost$Tape", "kindTold", "()I"⟩, 5) := ⟨⟨by decide +kernel, by decide +kernel⟩, List.mem_of_getElem? (i := 128) (by decide +kernel), List.mem_of_getElem? (i := 591) (by decide +kernel), List.mem_of_getElem? (i := 592) (by decide +kernel)⟩
theorem lw_p14 : lw_okq (⟨"FarPost$Tape", "readLetter", "(LFarPost$Office;I)Z"⟩, 5) := ⟨⟨by decide +kernel, by decide +kernel⟩, List.mem_of_getElem? (i := 128) (by decide +kernel), List.mem_of_getElem? (i := 605) (by decide +kernel), List.mem_of_getElem? (i := 606) (by decide +kernel)⟩
theorem lw_p15 : lw_okq (⟨"FarPost$Tape", "readDays", "(LFarPost$Letter;)Z"⟩, 5) := ⟨⟨by decide +kernel, by decide +kernel⟩, List.mem_of_getElem? (i := 128) (by decide +kernel), List.mem_of_getElem? (i := 610) (by decide +kernel), List.mem_of_getElem? (i := 611) (by decide +kernel)⟩
def lw_privs_1 : List (MethodName × Nat) := [(⟨"FarPost", "finding", "(I)I"⟩, 9), (⟨"FarPost", "counting", "()I"⟩, 9), (⟨"FarPost", "canHold", "(I)Z"⟩, 9), (⟨"FarPost", "drawChart", "(II)V"⟩, 9), (⟨"FarPost$Chart", "limit", "(III)V"⟩, 2), (⟨"FarPost", "fewestOut", "(II)I"⟩, 9), (⟨"FarPost", "startGuess", "(I)V"⟩, 9), (⟨"FarPost", "guessFits", "()Z"⟩, 9), (⟨"FarPost$Tape", "step", "()V"⟩, 5), (⟨"FarPost$Tape", "readItem", "(LFarPost$Office;)Z"⟩, 5), (⟨"FarPost$Tape", "isWord", "(Ljava/lang/String;)Z"⟩, 5), (⟨"FarPost$Tape", "readLaw", "(LFarPost$Office;)Z"⟩, 5), (⟨"FarPost$Tape", "numberTold", "(I)I"⟩, 5), (⟨"FarPost$Tape", "kindTold", "()I"⟩, 5), (⟨"FarPost$Tape", "readLetter", "(LFarPost$Office;I)Z"⟩, 5), (⟨"FarPost$Tape", "readDays", "(LFarPost$Letter;)Z"⟩, 5)]
theorem lw_r1 : ∀ q ∈ lw_privs_1, lw_okq q := List.forall_mem_cons.mpr ⟨lw_p0, List.forall_mem_cons.mpr ⟨lw_p1, List.forall_mem_cons.mpr ⟨lw_p2, List.forall_mem_cons.mpr ⟨lw_p3, List.forall_mem_cons.mpr ⟨lw_p4, List.forall_mem_cons.mpr ⟨lw_p5, List.forall_mem_cons.mpr ⟨lw_p6, List.forall_mem_cons.mpr ⟨lw_p7, List.forall_mem_cons.mpr ⟨lw_p8, List.forall_mem_cons.mpr ⟨lw_p9, List.forall_mem_cons.mpr ⟨lw_p10, List.forall_mem_cons.mpr ⟨lw_p11, List.forall_mem_cons.mpr ⟨lw_p12, List.forall_mem_cons.mpr ⟨lw_p13, List.forall_mem_cons.mpr ⟨lw_p14, List.forall_mem_cons.mpr ⟨lw_p15, fun _ h => absurd h List.not_mem_nil⟩⟩⟩⟩⟩⟩⟩⟩⟩⟩⟩⟩⟩⟩⟩⟩
theorem lw_p16 : lw_okq (⟨"FarPost$Tape", "readMark", "(LFarPost$Letter;)Z"⟩, 5) := ⟨⟨by decide +kernel, by decide +kernel⟩, List.mem_of_getElem? (i := 128) (by decide +kernel), List.mem_of_getElem? (i := 615) (by decide +kernel), List.mem_of_getElem? (i := 616) (by decide +kernel)⟩
theorem lw_p17 : lw_okq (⟨"FarPost$Tape", "readStruck", "(LFarPost$Letter;)Z"⟩, 5) := ⟨⟨by decide +kernel, by decide +kernel⟩, List.mem_of_getElem? (i := 128) (by decide +kernel), List.mem_of_getElem? (i := 620) (by decide +kernel), List.mem_of_getElem? (i := 621) (by decide +kernel)⟩
theorem lw_p18 : lw_okq (⟨"FarPost", "sheetTrouble", "(I)I"⟩, 9) := ⟨⟨by decide +kernel, by decide +kernel⟩, List.mem_of_getElem? (i := 17) (by decide +kernel), List.mem_of_getElem? (i := 656) (by decide +kernel), List.mem_of_getElem? (i := 657) (by decide +kernel)⟩
theorem lw_p19 : lw_okq (⟨"FarPost", "placesTrouble", "(I)I"⟩, 9) := ⟨⟨by decide +kernel, by decide +kernel⟩, List.mem_of_getElem? (i := 17) (by decide +kernel), List.mem_of_getElem? (i := 685) (by decide +kernel), List.mem_of_getElem? (i := 686) (by decide +kernel)⟩
theorem lw_p20 : lw_okq (⟨"FarPostModel", "finds", "(I)I"⟩, 20) := ⟨⟨by decide +kernel, by decide +kernel⟩, List.mem_of_getElem? (i := 735) (by decide +kernel), List.mem_of_getElem? (i := 820) (by decide +kernel), List.mem_of_getElem? (i := 821) (by decide +kernel)⟩
theorem lw_p21 : lw_okq (⟨"FarPostModel", "comes", "(IIIII)V"⟩, 20) := ⟨⟨by decide +kernel, by decide +kernel⟩, List.mem_of_getElem? (i := 735) (by decide +kernel), List.mem_of_getElem? (i := 825) (by decide +kernel), List.mem_of_getElem? (i := 826) (by decide +kernel)⟩
theorem lw_p22 : lw_okq (⟨"FarPostModel", "isLetter", "(I)Z"⟩, 20) := ⟨⟨by decide +kernel, by decide +kernel⟩, List.mem_of_getElem? (i := 735) (by decide +kernel), List.mem_of_getElem? (i := 833) (by decide +kernel), List.mem_of_getElem? (i := 834) (by decide +kernel)⟩
theorem lw_p23 : lw_okq (⟨"FarPostModel", "leastOf", "(I)I"⟩, 20) := ⟨⟨by decide +kernel, by decide +kernel⟩, List.mem_of_getElem? (i := 735) (by decide +kernel), List.mem_of_getElem? (i := 838) (by decide +kernel), List.mem_of_getElem? (i := 839) (by decide +kernel)⟩
theorem lw_p24 : lw_okq (⟨"FarPostModel", "its", "(II)I"⟩, 20) := ⟨⟨by decide +kernel, by decide +kernel⟩, List.mem_of_getElem? (i := 735) (by decide +kernel), List.mem_of_getElem? (i := 842) (by decide +kernel), List.mem_of_getElem? (i := 843) (by decide +kernel)⟩
theorem lw_p25 : lw_okq (⟨"FarPostModel", "mostOf", "(I)I"⟩, 20) := ⟨⟨by decide +kernel, by decide +kernel⟩, List.mem_of_getElem? (i := 735) (by decide +kernel), List.mem_of_getElem? (i := 846) (by decide +kernel), List.mem_of_getElem? (i := 847) (by decide +kernel)⟩
theorem lw_p26 : lw_okq (⟨"FarPostModel", "comesOn", "(I)I"⟩, 20) := ⟨⟨by decide +kernel, by decide +kernel⟩, List.mem_of_getElem? (i := 735) (by decide +kernel), List.mem_of_getElem? (i := 850) (by decide +kernel), List.mem_of_getElem? (i := 851) (by decide +kernel)⟩
theorem lw_p27 : lw_okq (⟨"FarPostModel", "countIn", "(I)I"⟩, 20) := ⟨⟨by decide +kernel, by decide +kernel⟩, List.mem_of_getElem? (i := 735) (by decide +kernel), List.mem_of_getElem? (i := 857) (by decide +kernel), List.mem_of_getElem? (i := 858) (by decide +kernel)⟩
theorem lw_p28 : lw_okq (⟨"FarPostModel", "strucks", "()I"⟩, 20) := ⟨⟨by decide +kernel, by decide +kernel⟩, List.mem_of_getElem? (i := 735) (by decide +kernel), List.mem_of_getElem? (i := 861) (by decide +kernel), List.mem_of_getElem? (i := 862) (by decide +kernel)⟩
theorem lw_p29 : lw_okq (⟨"FarPostModel", "laterThan", "(I)I"⟩, 20) := ⟨⟨by decide +kernel, by decide +kernel⟩, List.mem_of_getElem? (i := 735) (by decide +kernel), List.mem_of_getElem? (i := 865) (by decide +kernel), List.mem_of_getElem? (i := 866) (by decide +kernel)⟩
theorem lw_p30 : lw_okq (⟨"FarPostModel", "isFit", "(III)Z"⟩, 20) := ⟨⟨by decide +kernel, by decide +kernel⟩, List.mem_of_getElem? (i := 735) (by decide +kernel), List.mem_of_getElem? (i := 873) (by decide +kernel), List.mem_of_getElem? (i := 874) (by decide +kernel)⟩
theorem lw_p31 : lw_okq (⟨"FarPostModel", "becomes", "(II)I"⟩, 20) := ⟨⟨by decide +kernel, by decide +kernel⟩, List.mem_of_getElem? (i := 735) (by decide +kernel), List.mem_of_getElem? (i := 877) (by decide +kernel), List.mem_of_getElem? (i := 878) (by decide +kernel)⟩
def lw_privs_2 : List (MethodName × Nat) := [(⟨"FarPost$Tape", "readMark", "(LFarPost$Letter;)Z"⟩, 5), (⟨"FarPost$Tape", "readStruck", "(LFarPost$Letter;)Z"⟩, 5), (⟨"FarPost", "sheetTrouble", "(I)I"⟩, 9), (⟨"FarPost", "placesTrouble", "(I)I"⟩, 9), (⟨"FarPostModel", "finds", "(I)I"⟩, 20), (⟨"FarPostModel", "comes", "(IIIII)V"⟩, 20), (⟨"FarPostModel", "isLetter", "(I)Z"⟩, 20), (⟨"FarPostModel", "leastOf", "(I)I"⟩, 20), (⟨"FarPostModel", "its", "(II)I"⟩, 20), (⟨"FarPostModel", "mostOf", "(I)I"⟩, 20), (⟨"FarPostModel", "comesOn", "(I)I"⟩, 20), (⟨"FarPostModel", "countIn", "(I)I"⟩, 20), (⟨"FarPostModel", "strucks", "()I"⟩, 20), (⟨"FarPostModel", "laterThan", "(I)I"⟩, 20), (⟨"FarPostModel", "isFit", "(III)Z"⟩, 20), (⟨"FarPostModel", "becomes", "(II)I"⟩, 20)]
theorem lw_r2 : ∀ q ∈ lw_privs_2, lw_okq q := List.forall_mem_cons.mpr ⟨lw_p16, List.forall_mem_cons.mpr ⟨lw_p17, List.forall_mem_cons.mpr ⟨lw_p18, List.forall_mem_cons.mpr ⟨lw_p19, List.forall_mem_cons.mpr ⟨lw_p20, List.forall_mem_cons.mpr ⟨lw_p21, List.forall_mem_cons.mpr ⟨lw_p22, List.forall_mem_cons.mpr ⟨lw_p23, List.forall_mem_cons.mpr ⟨lw_p24, List.forall_mem_cons.mpr ⟨lw_p25, List.forall_mem_cons.mpr ⟨lw_p26, List.forall_mem_cons.mpr ⟨lw_p27, List.forall_mem_cons.mpr ⟨lw_p28, List.forall_mem_cons.mpr ⟨lw_p29, List.forall_mem_cons.mpr ⟨lw_p30, List.forall_mem_cons.mpr ⟨lw_p31, fun _ h => absurd h List.not_mem_nil⟩⟩⟩⟩⟩⟩⟩⟩⟩⟩⟩⟩⟩⟩⟩⟩
theorem lw_p32 : lw_okq (⟨"FarPostModel", "isFitting", "()Z"⟩, 20) := ⟨⟨by decide +kernel, by decide +kernel⟩, List.mem_of_getElem? (i := 735) (by decide +kernel), List.mem_of_getElem? (i := 900) (by decide +kernel), List.mem_of_getElem? (i := 901) (by decide +kernel)⟩
theorem lw_p33 : lw_okq (⟨"FarPostModel", "canHold", "(I)Z"⟩, 20) := ⟨⟨by decide +kernel, by decide +kernel⟩, List.mem_of_getElem? (i := 735) (by decide +kernel), List.mem_of_getElem? (i := 904) (by decide +kernel), List.mem_of_getElem? (i := 905) (by decide +kernel)⟩
theorem lw_p34 : lw_okq (⟨"FarPostModel", "lays", "(I)V"⟩, 20) := ⟨⟨by decide +kernel, by decide +kernel⟩, List.mem_of_getElem? (i := 735) (by decide +kernel), List.mem_of_getElem? (i := 908) (by decide +kernel), List.mem_of_getElem? (i := 909) (by decide +kernel)⟩
theorem lw_p35 : lw_okq (⟨"FarPostModel", "binds", "(III)V"⟩, 20) := ⟨⟨by decide +kernel, by decide +kernel⟩, List.mem_of_getElem? (i := 735) (by decide +kernel), List.mem_of_getElem? (i := 912) (by decide +kernel), List.mem_of_getElem? (i := 913) (by decide +kernel)⟩
theorem lw_p36 : lw_okq (⟨"FarPostModel", "follows", "()Z"⟩, 20) := ⟨⟨by decide +kernel, by decide +kernel⟩, List.mem_of_getElem? (i := 735) (by decide +kernel), List.mem_of_getElem? (i := 916) (by decide +kernel), List.mem_of_getElem? (i := 917) (by decide +kernel)⟩
theorem lw_p37 : lw_okq (⟨"FarPostModel", "spanOf", "(II)I"⟩, 20) := ⟨⟨by decide +kernel, by decide +kernel⟩, List.mem_of_getElem? (i := 735) (by decide +kernel), List.mem_of_getElem? (i := 926) (by decide +kernel), List.mem_of_getElem? (i := 927) (by decide +kernel)⟩
theorem lw_p38 : lw_okq (⟨"FarPostModel", "spans", "()I"⟩, 20) := ⟨⟨by decide +kernel, by decide +kernel⟩, List.mem_of_getElem? (i := 735) (by decide +kernel), List.mem_of_getElem? (i := 946) (by decide +kernel), List.mem_of_getElem? (i := 947) (by decide +kernel)⟩
theorem lw_p39 : lw_okq (⟨"FarPostModel", "isSet", "(I)Z"⟩, 20) := ⟨⟨by decide +kernel, by decide +kernel⟩, List.mem_of_getElem? (i := 735) (by decide +kernel), List.mem_of_getElem? (i := 972) (by decide +kernel), List.mem_of_getElem? (i := 973) (by decide +kernel)⟩
theorem lw_p40 : lw_okq (⟨"FarPostModel", "fewestOf", "(II)I"⟩, 20) := ⟨⟨by decide +kernel, by decide +kernel⟩, List.mem_of_getElem? (i := 735) (by decide +kernel), List.mem_of_getElem? (i := 980) (by decide +kernel), List.mem_of_getElem? (i := 981) (by decide +kernel)⟩
theorem lw_p41 : lw_okq (⟨"FarPostModel", "orNone", "(I)I"⟩, 20) := ⟨⟨by decide +kernel, by decide +kernel⟩, List.mem_of_getElem? (i := 735) (by decide +kernel), List.mem_of_getElem? (i := 1003) (by decide +kernel), List.mem_of_getElem? (i := 1004) (by decide +kernel)⟩
theorem lw_p42 : lw_okq (⟨"FarPostModel", "nextToken", "()V"⟩, 20) := ⟨⟨by decide +kernel, by decide +kernel⟩, List.mem_of_getElem? (i := 735) (by decide +kernel), List.mem_of_getElem? (i := 1059) (by decide +kernel), List.mem_of_getElem? (i := 1060) (by decide +kernel)⟩
theorem lw_p43 : lw_okq (⟨"FarPostModel", "byteAt", "(I)I"⟩, 20) := ⟨⟨by decide +kernel, by decide +kernel⟩, List.mem_of_getElem? (i := 735) (by decide +kernel), List.mem_of_getElem? (i := 1063) (by decide +kernel), List.mem_of_getElem? (i := 1064) (by decide +kernel)⟩
theorem lw_p44 : lw_okq (⟨"FarPostModel", "itemHere", "()Z"⟩, 20) := ⟨⟨by decide +kernel, by decide +kernel⟩, List.mem_of_getElem? (i := 735) (by decide +kernel), List.mem_of_getElem? (i := 1073) (by decide +kernel), List.mem_of_getElem? (i := 1074) (by decide +kernel)⟩
theorem lw_p45 : lw_okq (⟨"FarPostModel", "kindHere", "()I"⟩, 20) := ⟨⟨by decide +kernel, by decide +kernel⟩, List.mem_of_getElem? (i := 735) (by decide +kernel), List.mem_of_getElem? (i := 1077) (by decide +kernel), List.mem_of_getElem? (i := 1078) (by decide +kernel)⟩
theorem lw_p46 : lw_okq (⟨"FarPostModel", "isSix", "(IIIIII)Z"⟩, 20) := ⟨⟨by decide +kernel, by decide +kernel⟩, List.mem_of_getElem? (i := 735) (by decide +kernel), List.mem_of_getElem? (i := 1081) (by decide +kernel), List.mem_of_getElem? (i := 1082) (by decide +kernel)⟩
theorem lw_p47 : lw_okq (⟨"FarPostModel", "isWord", "(I)Z"⟩, 20) := ⟨⟨by decide +kernel, by decide +kernel⟩, List.mem_of_getElem? (i := 735) (by decide +kernel), List.mem_of_getElem? (i := 1085) (by decide +kernel), List.mem_of_getElem? (i := 1086) (by decide +kernel)⟩
def lw_privs_3 : List (MethodName × Nat) := [(⟨"FarPostModel", "isFitting", "()Z"⟩, 20), (⟨"FarPostModel", "canHold", "(I)Z"⟩, 20), (⟨"FarPostModel", "lays", "(I)V"⟩, 20), (⟨"FarPostModel", "binds", "(III)V"⟩, 20), (⟨"FarPostModel", "follows", "()Z"⟩, 20), (⟨"FarPostModel", "spanOf", "(II)I"⟩, 20), (⟨"FarPostModel", "spans", "()I"⟩, 20), (⟨"FarPostModel", "isSet", "(I)Z"⟩, 20), (⟨"FarPostModel", "fewestOf", "(II)I"⟩, 20), (⟨"FarPostModel", "orNone", "(I)I"⟩, 20), (⟨"FarPostModel", "nextToken", "()V"⟩, 20), (⟨"FarPostModel", "byteAt", "(I)I"⟩, 20), (⟨"FarPostModel", "itemHere", "()Z"⟩, 20), (⟨"FarPostModel", "kindHere", "()I"⟩, 20), (⟨"FarPostModel", "isSix", "(IIIIII)Z"⟩, 20), (⟨"FarPostModel", "isWord", "(I)Z"⟩, 20)]
theorem lw_r3 : ∀ q ∈ lw_privs_3, lw_okq q := List.forall_mem_cons.mpr ⟨lw_p32, List.forall_mem_cons.mpr ⟨lw_p33, List.forall_mem_cons.mpr ⟨lw_p34, List.forall_mem_cons.mpr ⟨lw_p35, List.forall_mem_cons.mpr ⟨lw_p36, List.forall_mem_cons.mpr ⟨lw_p37, List.forall_mem_cons.mpr ⟨lw_p38, List.forall_mem_cons.mpr ⟨lw_p39, List.forall_mem_cons.mpr ⟨lw_p40, List.forall_mem_cons.mpr ⟨lw_p41, List.forall_mem_cons.mpr ⟨lw_p42, List.forall_mem_cons.mpr ⟨lw_p43, List.forall_mem_cons.mpr ⟨lw_p44, List.forall_mem_cons.mpr ⟨lw_p45, List.forall_mem_cons.mpr ⟨lw_p46, List.forall_mem_cons.mpr ⟨lw_p47, fun _ h => absurd h List.not_mem_nil⟩⟩⟩⟩⟩⟩⟩⟩⟩⟩⟩⟩⟩⟩⟩⟩
theorem lw_p48 : lw_okq (⟨"FarPostModel", "has3", "(IIII)Z"⟩, 20) := ⟨⟨by decide +kernel, by decide +kernel⟩, List.mem_of_getElem? (i := 735) (by decide +kernel), List.mem_of_getElem? (i := 1089) (by decide +kernel), List.mem_of_getElem? (i := 1090) (by decide +kernel)⟩
theorem lw_p49 : lw_okq (⟨"FarPostModel", "isFive", "(IIIII)Z"⟩, 20) := ⟨⟨by decide +kernel, by decide +kernel⟩, List.mem_of_getElem? (i := 735) (by decide +kernel), List.mem_of_getElem? (i := 1093) (by decide +kernel), List.mem_of_getElem? (i := 1094) (by decide +kernel)⟩
theorem lw_p50 : lw_okq (⟨"FarPostModel", "isFour", "(IIII)Z"⟩, 20) := ⟨⟨by decide +kernel, by decide +kernel⟩, List.mem_of_getElem? (i := 735) (by decide +kernel), List.mem_of_getElem? (i := 1097) (by decide +kernel), List.mem_of_getElem? (i := 1098) (by decide +kernel)⟩
theorem lw_p51 : lw_okq (⟨"FarPostModel", "letterHere", "(I)Z"⟩, 20) := ⟨⟨by decide +kernel, by decide +kernel⟩, List.mem_of_getElem? (i := 735) (by decide +kernel), List.mem_of_getElem? (i := 1101) (by decide +kernel), List.mem_of_getElem? (i := 1102) (by decide +kernel)⟩
theorem lw_p52 : lw_okq (⟨"FarPostModel", "fails", "()Z"⟩, 20) := ⟨⟨by decide +kernel, by decide +kernel⟩, List.mem_of_getElem? (i := 735) (by decide +kernel), List.mem_of_getElem? (i := 1105) (by decide +kernel), List.mem_of_getElem? (i := 1106) (by decide +kernel)⟩
theorem lw_p53 : lw_okq (⟨"FarPostModel", "townsHere", "()Z"⟩, 20) := ⟨⟨by decide +kernel, by decide +kernel⟩, List.mem_of_getElem? (i := 735) (by decide +kernel), List.mem_of_getElem? (i := 1109) (by decide +kernel), List.mem_of_getElem? (i := 1110) (by decide +kernel)⟩
theorem lw_p54 : lw_okq (⟨"FarPostModel", "isNumber", "(II)Z"⟩, 20) := ⟨⟨by decide +kernel, by decide +kernel⟩, List.mem_of_getElem? (i := 735) (by decide +kernel), List.mem_of_getElem? (i := 1113) (by decide +kernel), List.mem_of_getElem? (i := 1114) (by decide +kernel)⟩
theorem lw_p55 : lw_okq (⟨"FarPostModel", "daysHere", "()Z"⟩, 20) := ⟨⟨by decide +kernel, by decide +kernel⟩, List.mem_of_getElem? (i := 735) (by decide +kernel), List.mem_of_getElem? (i := 1117) (by decide +kernel), List.mem_of_getElem? (i := 1118) (by decide +kernel)⟩
theorem lw_p56 : lw_okq (⟨"FarPostModel", "lawHere", "(I)Z"⟩, 20) := ⟨⟨by decide +kernel, by decide +kernel⟩, List.mem_of_getElem? (i := 735) (by decide +kernel), List.mem_of_getElem? (i := 1121) (by decide +kernel), List.mem_of_getElem? (i := 1122) (by decide +kernel)⟩
theorem lw_p57 : lw_okq (⟨"FarPostModel", "wants", "(I)I"⟩, 20) := ⟨⟨by decide +kernel, by decide +kernel⟩, List.mem_of_getElem? (i := 735) (by decide +kernel), List.mem_of_getElem? (i := 1158) (by decide +kernel), List.mem_of_getElem? (i := 1159) (by decide +kernel)⟩
theorem lw_p58 : lw_okq (⟨"FarPostModel", "wantsPlaces", "(I)I"⟩, 20) := ⟨⟨by decide +kernel, by decide +kernel⟩, List.mem_of_getElem? (i := 735) (by decide +kernel), List.mem_of_getElem? (i := 1166) (by decide +kernel), List.mem_of_getElem? (i := 1167) (by decide +kernel)⟩
theorem lw_p59 : lw_okq (⟨"FarPostModel", "toldBy", "(III)J"⟩, 20) := ⟨⟨by decide +kernel, by decide +kernel⟩, List.mem_of_getElem? (i := 735) (by decide +kernel), List.mem_of_getElem? (i := 1170) (by decide +kernel), List.mem_of_getElem? (i := 1171) (by decide +kernel)⟩
def lw_privs_4 : List (MethodName × Nat) := [(⟨"FarPostModel", "has3", "(IIII)Z"⟩, 20), (⟨"FarPostModel", "isFive", "(IIIII)Z"⟩, 20), (⟨"FarPostModel", "isFour", "(IIII)Z"⟩, 20), (⟨"FarPostModel", "letterHere", "(I)Z"⟩, 20), (⟨"FarPostModel", "fails", "()Z"⟩, 20), (⟨"FarPostModel", "townsHere", "()Z"⟩, 20), (⟨"FarPostModel", "isNumber", "(II)Z"⟩, 20), (⟨"FarPostModel", "daysHere", "()Z"⟩, 20), (⟨"FarPostModel", "lawHere", "(I)Z"⟩, 20), (⟨"FarPostModel", "wants", "(I)I"⟩, 20), (⟨"FarPostModel", "wantsPlaces", "(I)I"⟩, 20), (⟨"FarPostModel", "toldBy", "(III)J"⟩, 20)]
theorem lw_r4 : ∀ q ∈ lw_privs_4, lw_okq q := List.forall_mem_cons.mpr ⟨lw_p48, List.forall_mem_cons.mpr ⟨lw_p49, List.forall_mem_cons.mpr ⟨lw_p50, List.forall_mem_cons.mpr ⟨lw_p51, List.forall_mem_cons.mpr ⟨lw_p52, List.forall_mem_cons.mpr ⟨lw_p53, List.forall_mem_cons.mpr ⟨lw_p54, List.forall_mem_cons.mpr ⟨lw_p55, List.forall_mem_cons.mpr ⟨lw_p56, List.forall_mem_cons.mpr ⟨lw_p57, List.forall_mem_cons.mpr ⟨lw_p58, List.forall_mem_cons.mpr ⟨lw_p59, fun _ h => absurd h List.not_mem_nil⟩⟩⟩⟩⟩⟩⟩⟩⟩⟩⟩⟩
def lw_privs : List (MethodName × Nat) := lw_privs_1 ++ (lw_privs_2 ++ (lw_privs_3 ++ (lw_privs_4)))
def lw_tbl : List Cond := k2_sels lw_privs ++ tables_1
theorem lw_privs_ok : ∀ q ∈ lw_privs, lw_okq q := by
  show ∀ q ∈ lw_privs_1 ++ (lw_privs_2 ++ (lw_privs_3 ++ (lw_privs_4))), lw_okq q
  exact List.forall_mem_append.mpr ⟨lw_r1, List.forall_mem_append.mpr ⟨lw_r2, List.forall_mem_append.mpr ⟨lw_r3, lw_r4⟩⟩⟩
end
section
def RX0 : String := "FarPost$Chart"
def TX0 : u_T := fun k => match k with
  | 0 => ("FarPost$Chart", "possible", "Z", false)
  | _ => ("FarPost$Chart", "tops", "[I", true)
def tyX0 : Nat → FieldType := fun k => match k with
  | 0 => .boolean
  | _ => .array .int
theorem nmX0 : ∀ a, a < 2 → ∀ b, b < 2 → a ≠ b → (TX0 a).2.1 ≠ (TX0 b).2.1 := by decide +kernel
theorem tyX0_ok : ∀ k, k < 2 → parseFieldDescriptor (TX0 k).2.2.1 = some (tyX0 k) := by decide +kernel
abbrev cX0_init : ByteArray := prog_2_method_1_code
def yX0_init : MethodName := ⟨RX0, "<init>", "()V"⟩
abbrev cX0_clear : ByteArray := prog_2_method_2_code
def yX0_clear : MethodName := ⟨RX0, "clear", "()V"⟩
abbrev cX0_narrow : ByteArray := prog_2_method_3_code
def yX0_narrow : MethodName := ⟨RX0, "narrow", "(IIII)V"⟩
abbrev cX0_limit : ByteArray := prog_2_method_4_code
def yX0_limit : MethodName := ⟨RX0, "limit", "(III)V"⟩
abbrev cX0_mostBelow : ByteArray := prog_2_method_5_code
def yX0_mostBelow : MethodName := ⟨RX0, "mostBelow", "(II)I"⟩
abbrev cX0_leastBelow : ByteArray := prog_2_method_6_code
def yX0_leastBelow : MethodName := ⟨RX0, "leastBelow", "(II)I"⟩
abbrev cX0_width : ByteArray := prog_2_method_7_code
def yX0_width : MethodName := ⟨RX0, "width", "(II)I"⟩
abbrev cX0_widestPair : ByteArray := prog_2_method_8_code
def yX0_widestPair : MethodName := ⟨RX0, "widestPair", "()I"⟩
abbrev cX0_allWidths : ByteArray := prog_2_method_9_code
def yX0_allWidths : MethodName := ⟨RX0, "allWidths", "()I"⟩
abbrev cX0_allows : ByteArray := prog_2_method_10_code
def yX0_allows : MethodName := ⟨RX0, "allows", "(IIII)Z"⟩
abbrev cX0_implies : ByteArray := prog_2_method_11_code
def yX0_implies : MethodName := ⟨RX0, "implies", "(LFarPost$Letter;I)Z"⟩
def RX1 : String := "FarPost$Letter"
def TX1 : u_T := fun k => match k with
  | 0 => ("FarPost$Letter", "kind", "I", false)
  | 1 => ("FarPost$Letter", "from", "I", false)
  | 2 => ("FarPost$Letter", "to", "I", false)
  | 3 => ("FarPost$Letter", "days", "I", false)
  | 4 => ("FarPost$Letter", "mark", "I", false)
  | _ => ("FarPost$Letter", "struck", "I", false)
def tyX1 : Nat → FieldType := fun k => match k with
  | 0 => .int
  | 1 => .int
  | 2 => .int
  | 3 => .int
  | 4 => .int
  | _ => .int
theorem nmX1 : ∀ a, a < 6 → ∀ b, b < 6 → a ≠ b → (TX1 a).2.1 ≠ (TX1 b).2.1 := by decide +kernel
theorem tyX1_ok : ∀ k, k < 6 → parseFieldDescriptor (TX1 k).2.2.1 = some (tyX1 k) := by decide +kernel
abbrev cX1_init : ByteArray := prog_3_method_1_code
def yX1_init : MethodName := ⟨RX1, "<init>", "()V"⟩
abbrev cX1_kindAbove : ByteArray := prog_3_method_2_code
def yX1_kindAbove : MethodName := ⟨RX1, "kindAbove", "(I)I"⟩
abbrev cX1_kindName : ByteArray := prog_3_method_3_code
def yX1_kindName : MethodName := ⟨RX1, "kindName", "(I)Ljava/lang/String;"⟩
abbrev cX1_part : ByteArray := prog_3_method_4_code
def yX1_part : MethodName := ⟨RX1, "part", "(I)I"⟩
abbrev cX1_setPart : ByteArray := prog_3_method_5_code
def yX1_setPart : MethodName := ⟨RX1, "setPart", "(II)V"⟩
abbrev cX1_become : ByteArray := prog_3_method_6_code
def yX1_become : MethodName := ⟨RX1, "become", "(LFarPost$Letter;)V"⟩
abbrev cX1_least : ByteArray := prog_3_method_7_code
def yX1_least : MethodName := ⟨RX1, "least", "(I)I"⟩
abbrev cX1_most : ByteArray := prog_3_method_8_code
def yX1_most : MethodName := ⟨RX1, "most", "(I)I"⟩
abbrev cX1_comes : ByteArray := prog_3_method_9_code
def yX1_comes : MethodName := ⟨RX1, "comes", "(I)I"⟩
def RX2 : String := "FarPost$Office"
def TX2 : u_T := fun k => match k with
  | 0 => ("FarPost$Office", "rows", "[LFarPost$Letter;", true)
  | 1 => ("FarPost$Office", "letters", "I", false)
  | 2 => ("FarPost$Office", "slip", "I", false)
  | 3 => ("FarPost$Office", "frost", "I", false)
  | 4 => ("FarPost$Office", "day", "I", false)
  | 5 => ("FarPost$Office", "z", "I", false)
  | _ => ("FarPost$Office", "spots", "[I", true)
def tyX2 : Nat → FieldType := fun k => match k with
  | 0 => .array (.object "FarPost$Letter")
  | 1 => .int
  | 2 => .int
  | 3 => .int
  | 4 => .int
  | 5 => .int
  | _ => .array .int
theorem nmX2 : ∀ a, a < 7 → ∀ b, b < 7 → a ≠ b → (TX2 a).2.1 ≠ (TX2 b).2.1 := by decide +kernel
theorem tyX2_ok : ∀ k, k < 7 → parseFieldDescriptor (TX2 k).2.2.1 = some (tyX2 k) := by decide +kernel
abbrev cX2_init : ByteArray := prog_4_method_1_code
def yX2_init : MethodName := ⟨RX2, "<init>", "()V"⟩
abbrev cX2_become : ByteArray := prog_4_method_2_code
def yX2_become : MethodName := ⟨RX2, "become", "(LFarPost$Office;)V"⟩
abbrev cX2_has : ByteArray := prog_4_method_3_code
def yX2_has : MethodName := ⟨RX2, "has", "(I)Z"⟩
abbrev cX2_hasAll : ByteArray := prog_4_method_4_code
def yX2_hasAll : MethodName := ⟨RX2, "hasAll", "(I)Z"⟩
abbrev cX2_receive : ByteArray := prog_4_method_5_code
def yX2_receive : MethodName := ⟨RX2, "receive", "(IIIII)I"⟩
abbrev cX2_counts : ByteArray := prog_4_method_6_code
def yX2_counts : MethodName := ⟨RX2, "counts", "(LFarPost$Letter;I)Z"⟩
abbrev cX2_countingOn : ByteArray := prog_4_method_7_code
def yX2_countingOn : MethodName := ⟨RX2, "countingOn", "(I)I"⟩
abbrev cX2_toCome : ByteArray := prog_4_method_8_code
def yX2_toCome : MethodName := ⟨RX2, "toCome", "()I"⟩
abbrev cX2_struckOnes : ByteArray := prog_4_method_9_code
def yX2_struckOnes : MethodName := ⟨RX2, "struckOnes", "()I"⟩
abbrev cX2_allDays : ByteArray := prog_4_method_10_code
def yX2_allDays : MethodName := ⟨RX2, "allDays", "()I"⟩
abbrev cX2_heldSpots : ByteArray := prog_4_method_11_code
def yX2_heldSpots : MethodName := ⟨RX2, "heldSpots", "()I"⟩
abbrev cX2_draw : ByteArray := prog_4_method_12_code
def yX2_draw : MethodName := ⟨RX2, "draw", "()I"⟩
def RX3 : String := "FarPost$Sheet"
def TX3 : u_T := fun k => match k with
  | 0 => ("FarPost$Sheet", "bits", "I", false)
  | 1 => ("FarPost$Sheet", "size", "I", false)
  | _ => ("FarPost$Sheet", "numbers", "[I", true)
def tyX3 : Nat → FieldType := fun k => match k with
  | 0 => .int
  | 1 => .int
  | _ => .array .int
theorem nmX3 : ∀ a, a < 3 → ∀ b, b < 3 → a ≠ b → (TX3 a).2.1 ≠ (TX3 b).2.1 := by decide +kernel
theorem tyX3_ok : ∀ k, k < 3 → parseFieldDescriptor (TX3 k).2.2.1 = some (tyX3 k) := by decide +kernel
abbrev cX3_init : ByteArray := prog_5_method_1_code
def yX3_init : MethodName := ⟨RX3, "<init>", "()V"⟩
abbrev cX3_isMissing : ByteArray := prog_5_method_2_code
def yX3_isMissing : MethodName := ⟨RX3, "isMissing", "()Z"⟩
abbrev cX3_renew : ByteArray := prog_5_method_3_code
def yX3_renew : MethodName := ⟨RX3, "renew", "(II)V"⟩
abbrev cX3_put : ByteArray := prog_5_method_4_code
def yX3_put : MethodName := ⟨RX3, "put", "(II)V"⟩
abbrev cX3_hasRun : ByteArray := prog_5_method_5_code
def yX3_hasRun : MethodName := ⟨RX3, "hasRun", "(II)Z"⟩
abbrev cX3_arePlaces : ByteArray := prog_5_method_6_code
def yX3_arePlaces : MethodName := ⟨RX3, "arePlaces", "()Z"⟩
abbrev cX3_denies : ByteArray := prog_5_method_7_code
def yX3_denies : MethodName := ⟨RX3, "denies", "(LFarPost$Letter;I)Z"⟩
def RX4 : String := "FarPost$Tape"
def TX4 : u_T := fun k => match k with
  | 0 => ("FarPost$Tape", "size", "I", false)
  | 1 => ("FarPost$Tape", "bytes", "[I", true)
  | 2 => ("FarPost$Tape", "token", "I", false)
  | 3 => ("FarPost$Tape", "place", "I", false)
  | _ => ("FarPost$Tape", "behind", "I", false)
def tyX4 : Nat → FieldType := fun k => match k with
  | 0 => .int
  | 1 => .array .int
  | 2 => .int
  | 3 => .int
  | _ => .int
theorem nmX4 : ∀ a, a < 5 → ∀ b, b < 5 → a ≠ b → (TX4 a).2.1 ≠ (TX4 b).2.1 := by decide +kernel
theorem tyX4_ok : ∀ k, k < 5 → parseFieldDescriptor (TX4 k).2.2.1 = some (tyX4 k) := by decide +kernel
abbrev cX4_init : ByteArray := prog_6_method_1_code
def yX4_init : MethodName := ⟨RX4, "<init>", "()V"⟩
abbrev cX4_append : ByteArray := prog_6_method_2_code
def yX4_append : MethodName := ⟨RX4, "append", "(I)V"⟩
abbrev cX4_readOnto : ByteArray := prog_6_method_3_code
def yX4_readOnto : MethodName := ⟨RX4, "readOnto", "(LFarPost$Office;)I"⟩
abbrev cX4_readItem : ByteArray := prog_6_method_4_code
def yX4_readItem : MethodName := ⟨RX4, "readItem", "(LFarPost$Office;)Z"⟩
abbrev cX4_readLaw : ByteArray := prog_6_method_5_code
def yX4_readLaw : MethodName := ⟨RX4, "readLaw", "(LFarPost$Office;)Z"⟩
abbrev cX4_readLetter : ByteArray := prog_6_method_6_code
def yX4_readLetter : MethodName := ⟨RX4, "readLetter", "(LFarPost$Office;I)Z"⟩
abbrev cX4_readDays : ByteArray := prog_6_method_7_code
def yX4_readDays : MethodName := ⟨RX4, "readDays", "(LFarPost$Letter;)Z"⟩
abbrev cX4_readMark : ByteArray := prog_6_method_8_code
def yX4_readMark : MethodName := ⟨RX4, "readMark", "(LFarPost$Letter;)Z"⟩
abbrev cX4_readStruck : ByteArray := prog_6_method_9_code
def yX4_readStruck : MethodName := ⟨RX4, "readStruck", "(LFarPost$Letter;)Z"⟩
abbrev cX4_step : ByteArray := prog_6_method_10_code
def yX4_step : MethodName := ⟨RX4, "step", "()V"⟩
abbrev cX4_tokenBegunBy : ByteArray := prog_6_method_11_code
def yX4_tokenBegunBy : MethodName := ⟨RX4, "tokenBegunBy", "(I)I"⟩
abbrev cX4_isWord : ByteArray := prog_6_method_12_code
def yX4_isWord : MethodName := ⟨RX4, "isWord", "(Ljava/lang/String;)Z"⟩
abbrev cX4_kindTold : ByteArray := prog_6_method_13_code
def yX4_kindTold : MethodName := ⟨RX4, "kindTold", "()I"⟩
abbrev cX4_numberTold : ByteArray := prog_6_method_14_code
def yX4_numberTold : MethodName := ⟨RX4, "numberTold", "(I)I"⟩
def RX5 : String := "FarPost"
def TX5 : u_T := fun k => match k with
  | 0 => ("FarPost", "office", "LFarPost$Office;", true)
  | 1 => ("FarPost", "draft", "LFarPost$Office;", true)
  | 2 => ("FarPost", "keptOffice", "LFarPost$Office;", true)
  | 3 => ("FarPost", "isKept", "Z", false)
  | 4 => ("FarPost", "chart", "LFarPost$Chart;", true)
  | 5 => ("FarPost", "guess", "LFarPost$Letter;", true)
  | 6 => ("FarPost", "tape", "LFarPost$Tape;", true)
  | 7 => ("FarPost", "sheets", "[LFarPost$Sheet;", true)
  | _ => ("FarPost", "findings", "[I", true)
def tyX5 : Nat → FieldType := fun k => match k with
  | 0 => .object "FarPost$Office"
  | 1 => .object "FarPost$Office"
  | 2 => .object "FarPost$Office"
  | 3 => .boolean
  | 4 => .object "FarPost$Chart"
  | 5 => .object "FarPost$Letter"
  | 6 => .object "FarPost$Tape"
  | 7 => .array (.object "FarPost$Sheet")
  | _ => .array .int
theorem nmX5 : ∀ a, a < 9 → ∀ b, b < 9 → a ≠ b → (TX5 a).2.1 ≠ (TX5 b).2.1 := by decide +kernel
theorem tyX5_ok : ∀ k, k < 9 → parseFieldDescriptor (TX5 k).2.2.1 = some (tyX5 k) := by decide +kernel
abbrev cX5_init : ByteArray := prog_1_method_1_code
def yX5_init : MethodName := ⟨RX5, "<init>", "()V"⟩
abbrev cX5_letter : ByteArray := prog_1_method_2_code
def yX5_letter : MethodName := ⟨RX5, "letter", "(IIIII)I"⟩
abbrev cX5_of : ByteArray := prog_1_method_3_code
def yX5_of : MethodName := ⟨RX5, "of", "(II)I"⟩
abbrev cX5_change : ByteArray := prog_1_method_4_code
def yX5_change : MethodName := ⟨RX5, "change", "(III)I"⟩
abbrev cX5_law : ByteArray := prog_1_method_5_code
def yX5_law : MethodName := ⟨RX5, "law", "(II)I"⟩
abbrev cX5_go : ByteArray := prog_1_method_6_code
def yX5_go : MethodName := ⟨RX5, "go", "(I)I"⟩
abbrev cX5_now : ByteArray := prog_1_method_7_code
def yX5_now : MethodName := ⟨RX5, "now", "(I)I"⟩
abbrev cX5_fits : ByteArray := prog_1_method_8_code
def yX5_fits : MethodName := ⟨RX5, "fits", "()I"⟩
abbrev cX5_span : ByteArray := prog_1_method_9_code
def yX5_span : MethodName := ⟨RX5, "span", "(III)I"⟩
abbrev cX5_sure : ByteArray := prog_1_method_10_code
def yX5_sure : MethodName := ⟨RX5, "sure", "(I)I"⟩
abbrev cX5_below : ByteArray := prog_1_method_11_code
def yX5_below : MethodName := ⟨RX5, "below", "(I)I"⟩
abbrev cX5_widest : ByteArray := prog_1_method_12_code
def yX5_widest : MethodName := ⟨RX5, "widest", "()I"⟩
abbrev cX5_unknown : ByteArray := prog_1_method_13_code
def yX5_unknown : MethodName := ⟨RX5, "unknown", "()I"⟩
abbrev cX5_can : ByteArray := prog_1_method_14_code
def yX5_can : MethodName := ⟨RX5, "can", "(III)I"⟩
abbrev cX5_when : ByteArray := prog_1_method_15_code
def yX5_when : MethodName := ⟨RX5, "when", "()I"⟩
abbrev cX5_ahead : ByteArray := prog_1_method_16_code
def yX5_ahead : MethodName := ⟨RX5, "ahead", "(I)I"⟩
abbrev cX5_known : ByteArray := prog_1_method_17_code
def yX5_known : MethodName := ⟨RX5, "known", "(II)I"⟩
abbrev cX5_agree : ByteArray := prog_1_method_18_code
def yX5_agree : MethodName := ⟨RX5, "agree", "(I)I"⟩
abbrev cX5_strike : ByteArray := prog_1_method_19_code
def yX5_strike : MethodName := ⟨RX5, "strike", "()I"⟩
abbrev cX5_strikes : ByteArray := prog_1_method_20_code
def yX5_strikes : MethodName := ⟨RX5, "strikes", "()I"⟩
abbrev cX5_implied : ByteArray := prog_1_method_21_code
def yX5_implied : MethodName := ⟨RX5, "implied", "()I"⟩
abbrev cX5_suspects : ByteArray := prog_1_method_22_code
def yX5_suspects : MethodName := ⟨RX5, "suspects", "()I"⟩
abbrev cX5_dearest : ByteArray := prog_1_method_23_code
def yX5_dearest : MethodName := ⟨RX5, "dearest", "()I"⟩
abbrev cX5_merge : ByteArray := prog_1_method_24_code
def yX5_merge : MethodName := ⟨RX5, "merge", "(II)I"⟩
abbrev cX5_kinds : ByteArray := prog_1_method_25_code
def yX5_kinds : MethodName := ⟨RX5, "kinds", "(I)I"⟩
abbrev cX5_days : ByteArray := prog_1_method_26_code
def yX5_days : MethodName := ⟨RX5, "days", "(I)I"⟩
abbrev cX5_fewest : ByteArray := prog_1_method_27_code
def yX5_fewest : MethodName := ⟨RX5, "fewest", "(I)I"⟩
abbrev cX5_tight : ByteArray := prog_1_method_28_code
def yX5_tight : MethodName := ⟨RX5, "tight", "()I"⟩
abbrev cX5_loses : ByteArray := prog_1_method_29_code
def yX5_loses : MethodName := ⟨RX5, "loses", "(I)I"⟩
abbrev cX5_odds : ByteArray := prog_1_method_30_code
def yX5_odds : MethodName := ⟨RX5, "odds", "(II)J"⟩
abbrev cX5_seed : ByteArray := prog_1_method_31_code
def yX5_seed : MethodName := ⟨RX5, "seed", "(I)I"⟩
abbrev cX5_feed : ByteArray := prog_1_method_32_code
def yX5_feed : MethodName := ⟨RX5, "feed", "(II)I"⟩
abbrev cX5_wipe : ByteArray := prog_1_method_33_code
def yX5_wipe : MethodName := ⟨RX5, "wipe", "()I"⟩
abbrev cX5_text : ByteArray := prog_1_method_34_code
def yX5_text : MethodName := ⟨RX5, "text", "()I"⟩
abbrev cX5_hold : ByteArray := prog_1_method_35_code
def yX5_hold : MethodName := ⟨RX5, "hold", "(II)I"⟩
abbrev cX5_as : ByteArray := prog_1_method_36_code
def yX5_as : MethodName := ⟨RX5, "as", "(II)I"⟩
abbrev cX5_sheet : ByteArray := prog_1_method_37_code
def yX5_sheet : MethodName := ⟨RX5, "sheet", "(III)I"⟩
abbrev cX5_write : ByteArray := prog_1_method_38_code
def yX5_write : MethodName := ⟨RX5, "write", "(III)I"⟩
abbrev cX5_copy : ByteArray := prog_1_method_39_code
def yX5_copy : MethodName := ⟨RX5, "copy", "(IIIII)I"⟩
abbrev cX5_load : ByteArray := prog_1_method_40_code
def yX5_load : MethodName := ⟨RX5, "load", "(I)I"⟩
abbrev cX5_judge : ByteArray := prog_1_method_41_code
def yX5_judge : MethodName := ⟨RX5, "judge", "(I)I"⟩
abbrev cX5_maps : ByteArray := prog_1_method_42_code
def yX5_maps : MethodName := ⟨RX5, "maps", "(I)I"⟩
abbrev cX5_image : ByteArray := prog_1_method_43_code
def yX5_image : MethodName := ⟨RX5, "image", "()I"⟩
abbrev cX5_undo : ByteArray := prog_1_method_44_code
def yX5_undo : MethodName := ⟨RX5, "undo", "()I"⟩
abbrev cX5_tear : ByteArray := prog_1_method_45_code
def yX5_tear : MethodName := ⟨RX5, "tear", "()I"⟩
abbrev cX5_count : ByteArray := prog_1_method_46_code
def yX5_count : MethodName := ⟨RX5, "count", "(I)I"⟩
abbrev cX5_status : ByteArray := prog_1_method_47_code
def yX5_status : MethodName := ⟨RX5, "status", "(I)I"⟩
abbrev cX5_finding : ByteArray := prog_1_method_48_code
def yX5_finding : MethodName := ⟨RX5, "finding", "(I)I"⟩
abbrev cX5_counting : ByteArray := prog_1_method_49_code
def yX5_counting : MethodName := ⟨RX5, "counting", "()I"⟩
abbrev cX5_canHold : ByteArray := prog_1_method_50_code
def yX5_canHold : MethodName := ⟨RX5, "canHold", "(I)Z"⟩
abbrev cX5_drawChart : ByteArray := prog_1_method_51_code
def yX5_drawChart : MethodName := ⟨RX5, "drawChart", "(II)V"⟩
abbrev cX5_startGuess : ByteArray := prog_1_method_52_code
def yX5_startGuess : MethodName := ⟨RX5, "startGuess", "(I)V"⟩
abbrev cX5_guessFits : ByteArray := prog_1_method_53_code
def yX5_guessFits : MethodName := ⟨RX5, "guessFits", "()Z"⟩
abbrev cX5_fewestOut : ByteArray := prog_1_method_54_code
def yX5_fewestOut : MethodName := ⟨RX5, "fewestOut", "(II)I"⟩
abbrev cX5_isPick : ByteArray := prog_1_method_55_code
def yX5_isPick : MethodName := ⟨RX5, "isPick", "(III)Z"⟩
abbrev cX5_isIn : ByteArray := prog_1_method_56_code
def yX5_isIn : MethodName := ⟨RX5, "isIn", "(II)Z"⟩
abbrev cX5_without : ByteArray := prog_1_method_57_code
def yX5_without : MethodName := ⟨RX5, "without", "(II)I"⟩
abbrev cX5_within : ByteArray := prog_1_method_58_code
def yX5_within : MethodName := ⟨RX5, "within", "(III)Z"⟩
abbrev cX5_isKind : ByteArray := prog_1_method_59_code
def yX5_isKind : MethodName := ⟨RX5, "isKind", "(I)Z"⟩
abbrev cX5_isTown : ByteArray := prog_1_method_60_code
def yX5_isTown : MethodName := ⟨RX5, "isTown", "(I)Z"⟩
abbrev cX5_arePair : ByteArray := prog_1_method_61_code
def yX5_arePair : MethodName := ⟨RX5, "arePair", "(II)Z"⟩
abbrev cX5_areDays : ByteArray := prog_1_method_62_code
def yX5_areDays : MethodName := ⟨RX5, "areDays", "(I)Z"⟩
abbrev cX5_isPart : ByteArray := prog_1_method_63_code
def yX5_isPart : MethodName := ⟨RX5, "isPart", "(LFarPost$Letter;II)Z"⟩
abbrev cX5_isUnder : ByteArray := prog_1_method_64_code
def yX5_isUnder : MethodName := ⟨RX5, "isUnder", "(II)Z"⟩
abbrev cX5_isSheet : ByteArray := prog_1_method_65_code
def yX5_isSheet : MethodName := ⟨RX5, "isSheet", "(I)Z"⟩
abbrev cX5_sheetTrouble : ByteArray := prog_1_method_66_code
def yX5_sheetTrouble : MethodName := ⟨RX5, "sheetTrouble", "(I)I"⟩
abbrev cX5_placesTrouble : ByteArray := prog_1_method_67_code
def yX5_placesTrouble : MethodName := ⟨RX5, "placesTrouble", "(I)I"⟩
def RX6 : String := "FarPostModel"
def TX6 : u_T := fun k => match k with
  | 0 => ("FarPostModel", "s", "[I", true)
  | 1 => ("FarPostModel", "kept", "[I", true)
  | 2 => ("FarPostModel", "before", "[I", true)
  | 3 => ("FarPostModel", "isKept", "Z", false)
  | 4 => ("FarPostModel", "findings", "[I", true)
  | 5 => ("FarPostModel", "tape", "[I", true)
  | 6 => ("FarPostModel", "taped", "I", false)
  | 7 => ("FarPostModel", "bitsOf", "[I", true)
  | 8 => ("FarPostModel", "sizes", "[I", true)
  | 9 => ("FarPostModel", "numbers", "[I", true)
  | 10 => ("FarPostModel", "far", "[I", true)
  | 11 => ("FarPostModel", "asFew", "I", false)
  | 12 => ("FarPostModel", "token", "I", false)
  | 13 => ("FarPostModel", "from", "I", false)
  | 14 => ("FarPostModel", "to", "I", false)
  | 15 => ("FarPostModel", "value", "I", false)
  | 16 => ("FarPostModel", "faultAt", "I", false)
  | 17 => ("FarPostModel", "readFrom", "I", false)
  | 18 => ("FarPostModel", "readTo", "I", false)
  | _ => ("FarPostModel", "readDays", "I", false)
def tyX6 : Nat → FieldType := fun k => match k with
  | 0 => .array .int
  | 1 => .array .int
  | 2 => .array .int
  | 3 => .boolean
  | 4 => .array .int
  | 5 => .array .int
  | 6 => .int
  | 7 => .array .int
  | 8 => .array .int
  | 9 => .array .int
  | 10 => .array .int
  | 11 => .int
  | 12 => .int
  | 13 => .int
  | 14 => .int
  | 15 => .int
  | 16 => .int
  | 17 => .int
  | 18 => .int
  | _ => .int
theorem nmX6 : ∀ a, a < 20 → ∀ b, b < 20 → a ≠ b → (TX6 a).2.1 ≠ (TX6 b).2.1 := by decide +kernel
theorem tyX6_ok : ∀ k, k < 20 → parseFieldDescriptor (TX6 k).2.2.1 = some (tyX6 k) := by decide +kernel
abbrev cX6_init : ByteArray := prog_8_method_1_code
def yX6_init : MethodName := ⟨RX6, "<init>", "()V"⟩
abbrev cX6_isIn : ByteArray := prog_8_method_2_code
def yX6_isIn : MethodName := ⟨RX6, "isIn", "(JJJ)Z"⟩
abbrev cX6_finds : ByteArray := prog_8_method_3_code
def yX6_finds : MethodName := ⟨RX6, "finds", "(I)I"⟩
abbrev cX6_becomes : ByteArray := prog_8_method_4_code
def yX6_becomes : MethodName := ⟨RX6, "becomes", "(II)I"⟩
abbrev cX6_copyRow : ByteArray := prog_8_method_5_code
def yX6_copyRow : MethodName := ⟨RX6, "copyRow", "([I[I)V"⟩
abbrev cX6_isTown : ByteArray := prog_8_method_6_code
def yX6_isTown : MethodName := ⟨RX6, "isTown", "(I)Z"⟩
abbrev cX6_isPair : ByteArray := prog_8_method_7_code
def yX6_isPair : MethodName := ⟨RX6, "isPair", "(II)Z"⟩
abbrev cX6_isLetter : ByteArray := prog_8_method_8_code
def yX6_isLetter : MethodName := ⟨RX6, "isLetter", "(I)Z"⟩
abbrev cX6_isSet : ByteArray := prog_8_method_9_code
def yX6_isSet : MethodName := ⟨RX6, "isSet", "(I)Z"⟩
abbrev cX6_its : ByteArray := prog_8_method_10_code
def yX6_its : MethodName := ⟨RX6, "its", "(II)I"⟩
abbrev cX6_size : ByteArray := prog_8_method_11_code
def yX6_size : MethodName := ⟨RX6, "size", "(I)I"⟩
abbrev cX6_orNone : ByteArray := prog_8_method_12_code
def yX6_orNone : MethodName := ⟨RX6, "orNone", "(I)I"⟩
abbrev cX6_leastOf : ByteArray := prog_8_method_13_code
def yX6_leastOf : MethodName := ⟨RX6, "leastOf", "(I)I"⟩
abbrev cX6_mostOf : ByteArray := prog_8_method_14_code
def yX6_mostOf : MethodName := ⟨RX6, "mostOf", "(I)I"⟩
abbrev cX6_comesOn : ByteArray := prog_8_method_15_code
def yX6_comesOn : MethodName := ⟨RX6, "comesOn", "(I)I"⟩
abbrev cX6_strucks : ByteArray := prog_8_method_16_code
def yX6_strucks : MethodName := ⟨RX6, "strucks", "()I"⟩
abbrev cX6_laterThan : ByteArray := prog_8_method_17_code
def yX6_laterThan : MethodName := ⟨RX6, "laterThan", "(I)I"⟩
abbrev cX6_countIn : ByteArray := prog_8_method_18_code
def yX6_countIn : MethodName := ⟨RX6, "countIn", "(I)I"⟩
abbrev cX6_comes : ByteArray := prog_8_method_19_code
def yX6_comes : MethodName := ⟨RX6, "comes", "(IIIII)V"⟩
abbrev cX6_letter : ByteArray := prog_8_method_20_code
def yX6_letter : MethodName := ⟨RX6, "letter", "(IIIII)I"⟩
abbrev cX6_of : ByteArray := prog_8_method_21_code
def yX6_of : MethodName := ⟨RX6, "of", "(II)I"⟩
abbrev cX6_isFit : ByteArray := prog_8_method_22_code
def yX6_isFit : MethodName := ⟨RX6, "isFit", "(III)Z"⟩
abbrev cX6_change : ByteArray := prog_8_method_23_code
def yX6_change : MethodName := ⟨RX6, "change", "(III)I"⟩
abbrev cX6_law : ByteArray := prog_8_method_24_code
def yX6_law : MethodName := ⟨RX6, "law", "(II)I"⟩
abbrev cX6_go : ByteArray := prog_8_method_25_code
def yX6_go : MethodName := ⟨RX6, "go", "(I)I"⟩
abbrev cX6_now : ByteArray := prog_8_method_26_code
def yX6_now : MethodName := ⟨RX6, "now", "(I)I"⟩
abbrev cX6_binds : ByteArray := prog_8_method_27_code
def yX6_binds : MethodName := ⟨RX6, "binds", "(III)V"⟩
abbrev cX6_lays : ByteArray := prog_8_method_28_code
def yX6_lays : MethodName := ⟨RX6, "lays", "(I)V"⟩
abbrev cX6_follows : ByteArray := prog_8_method_29_code
def yX6_follows : MethodName := ⟨RX6, "follows", "()Z"⟩
abbrev cX6_canHold : ByteArray := prog_8_method_30_code
def yX6_canHold : MethodName := ⟨RX6, "canHold", "(I)Z"⟩
abbrev cX6_isFitting : ByteArray := prog_8_method_31_code
def yX6_isFitting : MethodName := ⟨RX6, "isFitting", "()Z"⟩
abbrev cX6_spanOf : ByteArray := prog_8_method_32_code
def yX6_spanOf : MethodName := ⟨RX6, "spanOf", "(II)I"⟩
abbrev cX6_spans : ByteArray := prog_8_method_33_code
def yX6_spans : MethodName := ⟨RX6, "spans", "()I"⟩
abbrev cX6_fits : ByteArray := prog_8_method_34_code
def yX6_fits : MethodName := ⟨RX6, "fits", "()I"⟩
abbrev cX6_span : ByteArray := prog_8_method_35_code
def yX6_span : MethodName := ⟨RX6, "span", "(III)I"⟩
abbrev cX6_sure : ByteArray := prog_8_method_36_code
def yX6_sure : MethodName := ⟨RX6, "sure", "(I)I"⟩
abbrev cX6_below : ByteArray := prog_8_method_37_code
def yX6_below : MethodName := ⟨RX6, "below", "(I)I"⟩
abbrev cX6_widest : ByteArray := prog_8_method_38_code
def yX6_widest : MethodName := ⟨RX6, "widest", "()I"⟩
abbrev cX6_unknown : ByteArray := prog_8_method_39_code
def yX6_unknown : MethodName := ⟨RX6, "unknown", "()I"⟩
abbrev cX6_can : ByteArray := prog_8_method_40_code
def yX6_can : MethodName := ⟨RX6, "can", "(III)I"⟩
abbrev cX6_when : ByteArray := prog_8_method_41_code
def yX6_when : MethodName := ⟨RX6, "when", "()I"⟩
abbrev cX6_ahead : ByteArray := prog_8_method_42_code
def yX6_ahead : MethodName := ⟨RX6, "ahead", "(I)I"⟩
abbrev cX6_known : ByteArray := prog_8_method_43_code
def yX6_known : MethodName := ⟨RX6, "known", "(II)I"⟩
abbrev cX6_many : ByteArray := prog_8_method_44_code
def yX6_many : MethodName := ⟨RX6, "many", "(I)I"⟩
abbrev cX6_agree : ByteArray := prog_8_method_45_code
def yX6_agree : MethodName := ⟨RX6, "agree", "(I)I"⟩
abbrev cX6_fewestOf : ByteArray := prog_8_method_46_code
def yX6_fewestOf : MethodName := ⟨RX6, "fewestOf", "(II)I"⟩
abbrev cX6_strike : ByteArray := prog_8_method_47_code
def yX6_strike : MethodName := ⟨RX6, "strike", "()I"⟩
abbrev cX6_strikes : ByteArray := prog_8_method_48_code
def yX6_strikes : MethodName := ⟨RX6, "strikes", "()I"⟩
abbrev cX6_implied : ByteArray := prog_8_method_49_code
def yX6_implied : MethodName := ⟨RX6, "implied", "()I"⟩
abbrev cX6_suspects : ByteArray := prog_8_method_50_code
def yX6_suspects : MethodName := ⟨RX6, "suspects", "()I"⟩
abbrev cX6_dearest : ByteArray := prog_8_method_51_code
def yX6_dearest : MethodName := ⟨RX6, "dearest", "()I"⟩
abbrev cX6_merge : ByteArray := prog_8_method_52_code
def yX6_merge : MethodName := ⟨RX6, "merge", "(II)I"⟩
abbrev cX6_kinds : ByteArray := prog_8_method_53_code
def yX6_kinds : MethodName := ⟨RX6, "kinds", "(I)I"⟩
abbrev cX6_days : ByteArray := prog_8_method_54_code
def yX6_days : MethodName := ⟨RX6, "days", "(I)I"⟩
abbrev cX6_fewest : ByteArray := prog_8_method_55_code
def yX6_fewest : MethodName := ⟨RX6, "fewest", "(I)I"⟩
abbrev cX6_tight : ByteArray := prog_8_method_56_code
def yX6_tight : MethodName := ⟨RX6, "tight", "()I"⟩
abbrev cX6_loses : ByteArray := prog_8_method_57_code
def yX6_loses : MethodName := ⟨RX6, "loses", "(I)I"⟩
abbrev cX6_odds : ByteArray := prog_8_method_58_code
def yX6_odds : MethodName := ⟨RX6, "odds", "(II)J"⟩
abbrev cX6_seed : ByteArray := prog_8_method_59_code
def yX6_seed : MethodName := ⟨RX6, "seed", "(I)I"⟩
abbrev cX6_feed : ByteArray := prog_8_method_60_code
def yX6_feed : MethodName := ⟨RX6, "feed", "(II)I"⟩
abbrev cX6_wipe : ByteArray := prog_8_method_61_code
def yX6_wipe : MethodName := ⟨RX6, "wipe", "()I"⟩
abbrev cX6_isAlpha : ByteArray := prog_8_method_62_code
def yX6_isAlpha : MethodName := ⟨RX6, "isAlpha", "(I)Z"⟩
abbrev cX6_isDigit : ByteArray := prog_8_method_63_code
def yX6_isDigit : MethodName := ⟨RX6, "isDigit", "(I)Z"⟩
abbrev cX6_byteAt : ByteArray := prog_8_method_64_code
def yX6_byteAt : MethodName := ⟨RX6, "byteAt", "(I)I"⟩
abbrev cX6_nextToken : ByteArray := prog_8_method_65_code
def yX6_nextToken : MethodName := ⟨RX6, "nextToken", "()V"⟩
abbrev cX6_has3 : ByteArray := prog_8_method_66_code
def yX6_has3 : MethodName := ⟨RX6, "has3", "(IIII)Z"⟩
abbrev cX6_isWord : ByteArray := prog_8_method_67_code
def yX6_isWord : MethodName := ⟨RX6, "isWord", "(I)Z"⟩
abbrev cX6_fails : ByteArray := prog_8_method_68_code
def yX6_fails : MethodName := ⟨RX6, "fails", "()Z"⟩
abbrev cX6_isFour : ByteArray := prog_8_method_69_code
def yX6_isFour : MethodName := ⟨RX6, "isFour", "(IIII)Z"⟩
abbrev cX6_isFive : ByteArray := prog_8_method_70_code
def yX6_isFive : MethodName := ⟨RX6, "isFive", "(IIIII)Z"⟩
abbrev cX6_isSix : ByteArray := prog_8_method_71_code
def yX6_isSix : MethodName := ⟨RX6, "isSix", "(IIIIII)Z"⟩
abbrev cX6_isNumber : ByteArray := prog_8_method_72_code
def yX6_isNumber : MethodName := ⟨RX6, "isNumber", "(II)Z"⟩
abbrev cX6_kindHere : ByteArray := prog_8_method_73_code
def yX6_kindHere : MethodName := ⟨RX6, "kindHere", "()I"⟩
abbrev cX6_townsHere : ByteArray := prog_8_method_74_code
def yX6_townsHere : MethodName := ⟨RX6, "townsHere", "()Z"⟩
abbrev cX6_daysHere : ByteArray := prog_8_method_75_code
def yX6_daysHere : MethodName := ⟨RX6, "daysHere", "()Z"⟩
abbrev cX6_letterHere : ByteArray := prog_8_method_76_code
def yX6_letterHere : MethodName := ⟨RX6, "letterHere", "(I)Z"⟩
abbrev cX6_lawHere : ByteArray := prog_8_method_77_code
def yX6_lawHere : MethodName := ⟨RX6, "lawHere", "(I)Z"⟩
abbrev cX6_itemHere : ByteArray := prog_8_method_78_code
def yX6_itemHere : MethodName := ⟨RX6, "itemHere", "()Z"⟩
abbrev cX6_text : ByteArray := prog_8_method_79_code
def yX6_text : MethodName := ⟨RX6, "text", "()I"⟩
abbrev cX6_hold : ByteArray := prog_8_method_80_code
def yX6_hold : MethodName := ⟨RX6, "hold", "(II)I"⟩
abbrev cX6_isUnder : ByteArray := prog_8_method_81_code
def yX6_isUnder : MethodName := ⟨RX6, "isUnder", "(II)Z"⟩
abbrev cX6_as : ByteArray := prog_8_method_82_code
def yX6_as : MethodName := ⟨RX6, "as", "(II)I"⟩
abbrev cX6_isSheet : ByteArray := prog_8_method_83_code
def yX6_isSheet : MethodName := ⟨RX6, "isSheet", "(I)Z"⟩
abbrev cX6_sheet : ByteArray := prog_8_method_84_code
def yX6_sheet : MethodName := ⟨RX6, "sheet", "(III)I"⟩
abbrev cX6_write : ByteArray := prog_8_method_85_code
def yX6_write : MethodName := ⟨RX6, "write", "(III)I"⟩
abbrev cX6_copy : ByteArray := prog_8_method_86_code
def yX6_copy : MethodName := ⟨RX6, "copy", "(IIIII)I"⟩
abbrev cX6_wants : ByteArray := prog_8_method_87_code
def yX6_wants : MethodName := ⟨RX6, "wants", "(I)I"⟩
abbrev cX6_load : ByteArray := prog_8_method_88_code
def yX6_load : MethodName := ⟨RX6, "load", "(I)I"⟩
abbrev cX6_toldBy : ByteArray := prog_8_method_89_code
def yX6_toldBy : MethodName := ⟨RX6, "toldBy", "(III)J"⟩
abbrev cX6_wantsPlaces : ByteArray := prog_8_method_90_code
def yX6_wantsPlaces : MethodName := ⟨RX6, "wantsPlaces", "(I)I"⟩
abbrev cX6_judge : ByteArray := prog_8_method_91_code
def yX6_judge : MethodName := ⟨RX6, "judge", "(I)I"⟩
abbrev cX6_maps : ByteArray := prog_8_method_92_code
def yX6_maps : MethodName := ⟨RX6, "maps", "(I)I"⟩
abbrev cX6_image : ByteArray := prog_8_method_93_code
def yX6_image : MethodName := ⟨RX6, "image", "()I"⟩
abbrev cX6_undo : ByteArray := prog_8_method_94_code
def yX6_undo : MethodName := ⟨RX6, "undo", "()I"⟩
abbrev cX6_tear : ByteArray := prog_8_method_95_code
def yX6_tear : MethodName := ⟨RX6, "tear", "()I"⟩
abbrev cX6_count : ByteArray := prog_8_method_96_code
def yX6_count : MethodName := ⟨RX6, "count", "(I)I"⟩
abbrev cX6_status : ByteArray := prog_8_method_97_code
def yX6_status : MethodName := ⟨RX6, "status", "(I)I"⟩
def RJ6 : String := "java/lang/Integer"
abbrev cJ6_bitCount_0f7a4 : ByteArray := prog_9_method_49_code
def yJ6_bitCount_0f7a4 : MethodName := ⟨RJ6, "bitCount", "(I)I"⟩
def RJ9 : String := "java/lang/Math"
abbrev cJ9_abs_0f7a4 : ByteArray := prog_10_method_59_code
def yJ9_abs_0f7a4 : MethodName := ⟨RJ9, "abs", "(I)I"⟩
abbrev cJ9_abs_067f4 : ByteArray := prog_10_method_61_code
def yJ9_abs_067f4 : MethodName := ⟨RJ9, "abs", "(J)J"⟩
def RJ0 : String := "java/lang/String"
abbrev cJ0_length_8abf5 : ByteArray := prog_11_method_54_code
def yJ0_length_8abf5 : MethodName := ⟨RJ0, "length", "()I"⟩
abbrev cJ0_charAt_5068e : ByteArray := prog_11_method_56_code
def yJ0_charAt_5068e : MethodName := ⟨RJ0, "charAt", "(I)C"⟩
abbrev cJ0_coder_7d493 : ByteArray := prog_11_method_152_code
def yJ0_coder_7d493 : MethodName := ⟨RJ0, "coder", "()B"⟩
abbrev cJ0_isLatin1_aae02 : ByteArray := prog_11_method_154_code
def yJ0_isLatin1_aae02 : MethodName := ⟨RJ0, "isLatin1", "()Z"⟩
abbrev cJ0_checkIndex_df160 : ByteArray := prog_11_method_155_code
def yJ0_checkIndex_df160 : MethodName := ⟨RJ0, "checkIndex", "(II)V"⟩
def RJ1 : String := "java/lang/StringLatin1"
abbrev cJ1_charAt_3b067 : ByteArray := prog_12_method_2_code
def yJ1_charAt_3b067 : MethodName := ⟨RJ1, "charAt", "([BI)C"⟩
def RJ2 : String := "java/lang/StringUTF16"
abbrev cJ2_getChar_3b067 : ByteArray := prog_13_method_5_code
def yJ2_getChar_3b067 : MethodName := ⟨RJ2, "getChar", "([BI)C"⟩
abbrev cJ2_length_9d52b : ByteArray := prog_13_method_6_code
def yJ2_length_9d52b : MethodName := ⟨RJ2, "length", "([B)I"⟩
abbrev cJ2_charAt_3b067 : ByteArray := prog_13_method_83_code
def yJ2_charAt_3b067 : MethodName := ⟨RJ2, "charAt", "([BI)C"⟩
abbrev cJ2_checkIndex_2214a : ByteArray := prog_13_method_91_code
def yJ2_checkIndex_2214a : MethodName := ⟨RJ2, "checkIndex", "(I[B)V"⟩
def RJ10 : String := "java/lang/System"
def RJ7 : String := "java/util/Arrays"
abbrev cJ7_fill_53178 : ByteArray := prog_15_method_103_code
def yJ7_fill_53178 : MethodName := ⟨RJ7, "fill", "([II)V"⟩
def RJ3 : String := "jdk/internal/util/Preconditions"
abbrev cJ3_checkIndex_8e157 : ByteArray := prog_16_method_11_code
def yJ3_checkIndex_8e157 : MethodName := ⟨RJ3, "checkIndex", "(IILjava/util/function/BiFunction;)I"⟩
def RL : String := "FarPostLaw"
abbrev cL_law : ByteArray := code
def yL_law : MethodName := ⟨RL, "law", "([I)Z"⟩
abbrev vwCl : List vw_C := [(RX0, TX0, 2), (RX1, TX1, 6), (RX2, TX2, 7), (RX3, TX3, 3), (RX4, TX4, 5), (RX5, TX5, 9), (RX6, TX6, 20)]
end
section
theorem dX0_init_0 : decode cX0_init 0 = .ok (.aload_n 0, 1) := by decide +kernel
theorem dX0_init_1 : decode cX0_init 1 = .ok (.invokespecial 3, 3) := by decide +kernel
theorem dX0_init_4 : decode cX0_init 4 = .ok (.aload_n 0, 1) := by decide +kernel
theorem dX0_init_5 : decode cX0_init 5 = .ok (.iconst 1, 1) := by decide +kernel
theorem dX0_init_6 : decode cX0_init 6 = .ok (.putfield 9, 3) := by decide +kernel
theorem dX0_init_9 : decode cX0_init 9 = .ok (.aload_n 0, 1) := by decide +kernel
theorem dX0_init_10 : decode cX0_init 10 = .ok (.bipush 64, 2) := by decide +kernel
theorem dX0_init_12 : decode cX0_init 12 = .ok (.newarray .int, 2) := by decide +kernel
theorem dX0_init_14 : decode cX0_init 14 = .ok (.putfield 15, 3) := by decide +kernel
theorem dX0_init_17 : decode cX0_init 17 = .ok (.return_, 1) := by decide +kernel
theorem dX0_clear_0 : decode cX0_clear 0 = .ok (.aload_n 0, 1) := by decide +kernel
theorem dX0_clear_1 : decode cX0_clear 1 = .ok (.iconst 1, 1) := by decide +kernel
theorem dX0_clear_2 : decode cX0_clear 2 = .ok (.putfield 9, 3) := by decide +kernel
theorem dX0_clear_5 : decode cX0_clear 5 = .ok (.aload_n 0, 1) := by decide +kernel
theorem dX0_clear_6 : decode cX0_clear 6 = .ok (.getfield 15, 3) := by decide +kernel
theorem dX0_clear_9 : decode cX0_clear 9 = .ok (.sipush 999, 3) := by decide +kernel
theorem dX0_clear_12 : decode cX0_clear 12 = .ok (.invokestatic 19, 3) := by decide +kernel
theorem dX0_clear_15 : decode cX0_clear 15 = .ok (.iconst 0, 1) := by decide +kernel
theorem dX0_clear_16 : decode cX0_clear 16 = .ok (.istore_n 1, 1) := by decide +kernel
theorem dX0_clear_17 : decode cX0_clear 17 = .ok (.iload_n 1, 1) := by decide +kernel
theorem dX0_clear_18 : decode cX0_clear 18 = .ok (.bipush 8, 2) := by decide +kernel
theorem dX0_clear_20 : decode cX0_clear 20 = .ok (.if_icmp .ge 21, 3) := by decide +kernel
theorem dX0_clear_23 : decode cX0_clear 23 = .ok (.aload_n 0, 1) := by decide +kernel
theorem dX0_clear_24 : decode cX0_clear 24 = .ok (.getfield 15, 3) := by decide +kernel
theorem dX0_clear_27 : decode cX0_clear 27 = .ok (.iload_n 1, 1) := by decide +kernel
theorem dX0_clear_28 : decode cX0_clear 28 = .ok (.bipush 8, 2) := by decide +kernel
theorem dX0_clear_30 : decode cX0_clear 30 = .ok (.imul, 1) := by decide +kernel
theorem dX0_clear_31 : decode cX0_clear 31 = .ok (.iload_n 1, 1) := by decide +kernel
theorem dX0_clear_32 : decode cX0_clear 32 = .ok (.iadd, 1) := by decide +kernel
theorem dX0_clear_33 : decode cX0_clear 33 = .ok (.iconst 0, 1) := by decide +kernel
theorem dX0_clear_34 : decode cX0_clear 34 = .ok (.iastore, 1) := by decide +kernel
theorem dX0_clear_35 : decode cX0_clear 35 = .ok (.iinc 1 1, 3) := by decide +kernel
theorem dX0_clear_38 : decode cX0_clear 38 = .ok (.goto (-21), 3) := by decide +kernel
theorem dX0_clear_41 : decode cX0_clear 41 = .ok (.return_, 1) := by decide +kernel
theorem dX0_narrow_0 : decode cX0_narrow 0 = .ok (.aload_n 0, 1) := by decide +kernel
theorem dX0_narrow_1 : decode cX0_narrow 1 = .ok (.iload_n 1, 1) := by decide +kernel
theorem dX0_narrow_2 : decode cX0_narrow 2 = .ok (.iload_n 2, 1) := by decide +kernel
theorem dX0_narrow_3 : decode cX0_narrow 3 = .ok (.iload 4, 2) := by decide +kernel
theorem dX0_narrow_5 : decode cX0_narrow 5 = .ok (.invokevirtual 25, 3) := by decide +kernel
theorem dX0_narrow_8 : decode cX0_narrow 8 = .ok (.aload_n 0, 1) := by decide +kernel
theorem dX0_narrow_9 : decode cX0_narrow 9 = .ok (.iload_n 2, 1) := by decide +kernel
theorem dX0_narrow_10 : decode cX0_narrow 10 = .ok (.iload_n 1, 1) := by decide +kernel
theorem dX0_narrow_11 : decode cX0_narrow 11 = .ok (.iload_n 3, 1) := by decide +kernel
theorem dX0_narrow_12 : decode cX0_narrow 12 = .ok (.ineg, 1) := by decide +kernel
theorem dX0_narrow_13 : decode cX0_narrow 13 = .ok (.invokevirtual 25, 3) := by decide +kernel
theorem dX0_narrow_16 : decode cX0_narrow 16 = .ok (.return_, 1) := by decide +kernel
theorem dX0_limit_0 : decode cX0_limit 0 = .ok (.aload_n 0, 1) := by decide +kernel
theorem dX0_limit_1 : decode cX0_limit 1 = .ok (.getfield 9, 3) := by decide +kernel
theorem dX0_limit_4 : decode cX0_limit 4 = .ok (.ifCond .eq 13, 3) := by decide +kernel
theorem dX0_limit_7 : decode cX0_limit 7 = .ok (.iload_n 3, 1) := by decide +kernel
theorem dX0_limit_8 : decode cX0_limit 8 = .ok (.aload_n 0, 1) := by decide +kernel
theorem dX0_limit_9 : decode cX0_limit 9 = .ok (.iload_n 1, 1) := by decide +kernel
theorem dX0_limit_10 : decode cX0_limit 10 = .ok (.iload_n 2, 1) := by decide +kernel
theorem dX0_limit_11 : decode cX0_limit 11 = .ok (.invokevirtual 29, 3) := by decide +kernel
theorem dX0_limit_14 : decode cX0_limit 14 = .ok (.if_icmp .lt 4, 3) := by decide +kernel
theorem dX0_limit_17 : decode cX0_limit 17 = .ok (.return_, 1) := by decide +kernel
theorem dX0_limit_18 : decode cX0_limit 18 = .ok (.iload_n 3, 1) := by decide +kernel
theorem dX0_limit_19 : decode cX0_limit 19 = .ok (.aload_n 0, 1) := by decide +kernel
theorem dX0_limit_20 : decode cX0_limit 20 = .ok (.iload_n 1, 1) := by decide +kernel
theorem dX0_limit_21 : decode cX0_limit 21 = .ok (.iload_n 2, 1) := by decide +kernel
theorem dX0_limit_22 : decode cX0_limit 22 = .ok (.invokevirtual 33, 3) := by decide +kernel
theorem dX0_limit_25 : decode cX0_limit 25 = .ok (.if_icmp .ge 9, 3) := by decide +kernel
theorem dX0_limit_28 : decode cX0_limit 28 = .ok (.aload_n 0, 1) := by decide +kernel
theorem dX0_limit_29 : decode cX0_limit 29 = .ok (.iconst 0, 1) := by decide +kernel
theorem dX0_limit_30 : decode cX0_limit 30 = .ok (.putfield 9, 3) := by decide +kernel
theorem dX0_limit_33 : decode cX0_limit 33 = .ok (.return_, 1) := by decide +kernel
theorem dX0_limit_34 : decode cX0_limit 34 = .ok (.iconst 0, 1) := by decide +kernel
theorem dX0_limit_35 : decode cX0_limit 35 = .ok (.istore 4, 2) := by decide +kernel
theorem dX0_limit_37 : decode cX0_limit 37 = .ok (.iload 4, 2) := by decide +kernel
theorem dX0_limit_39 : decode cX0_limit 39 = .ok (.bipush 8, 2) := by decide +kernel
theorem dX0_limit_41 : decode cX0_limit 41 = .ok (.if_icmp .ge 76, 3) := by decide +kernel
theorem dX0_limit_44 : decode cX0_limit 44 = .ok (.aload_n 0, 1) := by decide +kernel
theorem dX0_limit_45 : decode cX0_limit 45 = .ok (.iload 4, 2) := by decide +kernel
theorem dX0_limit_47 : decode cX0_limit 47 = .ok (.iload_n 1, 1) := by decide +kernel
theorem dX0_limit_48 : decode cX0_limit 48 = .ok (.invokevirtual 29, 3) := by decide +kernel
theorem dX0_limit_51 : decode cX0_limit 51 = .ok (.iload_n 3, 1) := by decide +kernel
theorem dX0_limit_52 : decode cX0_limit 52 = .ok (.iadd, 1) := by decide +kernel
theorem dX0_limit_53 : decode cX0_limit 53 = .ok (.istore 5, 2) := by decide +kernel
theorem dX0_limit_55 : decode cX0_limit 55 = .ok (.iconst 0, 1) := by decide +kernel
theorem dX0_limit_56 : decode cX0_limit 56 = .ok (.istore 6, 2) := by decide +kernel
theorem dX0_limit_58 : decode cX0_limit 58 = .ok (.iload 6, 2) := by decide +kernel
theorem dX0_limit_60 : decode cX0_limit 60 = .ok (.bipush 8, 2) := by decide +kernel
theorem dX0_limit_62 : decode cX0_limit 62 = .ok (.if_icmp .ge 49, 3) := by decide +kernel
theorem dX0_limit_65 : decode cX0_limit 65 = .ok (.iload 5, 2) := by decide +kernel
theorem dX0_limit_67 : decode cX0_limit 67 = .ok (.aload_n 0, 1) := by decide +kernel
theorem dX0_limit_68 : decode cX0_limit 68 = .ok (.iload_n 2, 1) := by decide +kernel
theorem dX0_limit_69 : decode cX0_limit 69 = .ok (.iload 6, 2) := by decide +kernel
theorem dX0_limit_71 : decode cX0_limit 71 = .ok (.invokevirtual 29, 3) := by decide +kernel
theorem dX0_limit_74 : decode cX0_limit 74 = .ok (.iadd, 1) := by decide +kernel
theorem dX0_limit_75 : decode cX0_limit 75 = .ok (.istore 7, 2) := by decide +kernel
theorem dX0_limit_77 : decode cX0_limit 77 = .ok (.iload 7, 2) := by decide +kernel
theorem dX0_limit_79 : decode cX0_limit 79 = .ok (.aload_n 0, 1) := by decide +kernel
theorem dX0_limit_80 : decode cX0_limit 80 = .ok (.iload 4, 2) := by decide +kernel
theorem dX0_limit_82 : decode cX0_limit 82 = .ok (.iload 6, 2) := by decide +kernel
theorem dX0_limit_84 : decode cX0_limit 84 = .ok (.invokevirtual 29, 3) := by decide +kernel
theorem dX0_limit_87 : decode cX0_limit 87 = .ok (.if_icmp .ge 18, 3) := by decide +kernel
theorem dX0_limit_90 : decode cX0_limit 90 = .ok (.aload_n 0, 1) := by decide +kernel
theorem dX0_limit_91 : decode cX0_limit 91 = .ok (.getfield 15, 3) := by decide +kernel
theorem dX0_limit_94 : decode cX0_limit 94 = .ok (.iload 4, 2) := by decide +kernel
theorem dX0_limit_96 : decode cX0_limit 96 = .ok (.bipush 8, 2) := by decide +kernel
theorem dX0_limit_98 : decode cX0_limit 98 = .ok (.imul, 1) := by decide +kernel
theorem dX0_limit_99 : decode cX0_limit 99 = .ok (.iload 6, 2) := by decide +kernel
theorem dX0_limit_101 : decode cX0_limit 101 = .ok (.iadd, 1) := by decide +kernel
theorem dX0_limit_102 : decode cX0_limit 102 = .ok (.iload 7, 2) := by decide +kernel
theorem dX0_limit_104 : decode cX0_limit 104 = .ok (.iastore, 1) := by decide +kernel
theorem dX0_limit_105 : decode cX0_limit 105 = .ok (.iinc 6 1, 3) := by decide +kernel
theorem dX0_limit_108 : decode cX0_limit 108 = .ok (.goto (-50), 3) := by decide +kernel
theorem dX0_limit_111 : decode cX0_limit 111 = .ok (.iinc 4 1, 3) := by decide +kernel
theorem dX0_limit_114 : decode cX0_limit 114 = .ok (.goto (-77), 3) := by decide +kernel
theorem dX0_limit_117 : decode cX0_limit 117 = .ok (.return_, 1) := by decide +kernel
theorem dX0_mostBelow_0 : decode cX0_mostBelow 0 = .ok (.aload_n 0, 1) := by decide +kernel
theorem dX0_mostBelow_1 : decode cX0_mostBelow 1 = .ok (.getfield 15, 3) := by decide +kernel
theorem dX0_mostBelow_4 : decode cX0_mostBelow 4 = .ok (.iload_n 1, 1) := by decide +kernel
theorem dX0_mostBelow_5 : decode cX0_mostBelow 5 = .ok (.bipush 8, 2) := by decide +kernel
theorem dX0_mostBelow_7 : decode cX0_mostBelow 7 = .ok (.imul, 1) := by decide +kernel
theorem dX0_mostBelow_8 : decode cX0_mostBelow 8 = .ok (.iload_n 2, 1) := by decide +kernel
theorem dX0_mostBelow_9 : decode cX0_mostBelow 9 = .ok (.iadd, 1) := by decide +kernel
theorem dX0_mostBelow_10 : decode cX0_mostBelow 10 = .ok (.iaload, 1) := by decide +kernel
theorem dX0_mostBelow_11 : decode cX0_mostBelow 11 = .ok (.ireturn, 1) := by decide +kernel
theorem dX0_leastBelow_0 : decode cX0_leastBelow 0 = .ok (.aload_n 0, 1) := by decide +kernel
theorem dX0_leastBelow_1 : decode cX0_leastBelow 1 = .ok (.getfield 15, 3) := by decide +kernel
theorem dX0_leastBelow_4 : decode cX0_leastBelow 4 = .ok (.iload_n 2, 1) := by decide +kernel
theorem dX0_leastBelow_5 : decode cX0_leastBelow 5 = .ok (.bipush 8, 2) := by decide +kernel
theorem dX0_leastBelow_7 : decode cX0_leastBelow 7 = .ok (.imul, 1) := by decide +kernel
theorem dX0_leastBelow_8 : decode cX0_leastBelow 8 = .ok (.iload_n 1, 1) := by decide +kernel
theorem dX0_leastBelow_9 : decode cX0_leastBelow 9 = .ok (.iadd, 1) := by decide +kernel
theorem dX0_leastBelow_10 : decode cX0_leastBelow 10 = .ok (.iaload, 1) := by decide +kernel
theorem dX0_leastBelow_11 : decode cX0_leastBelow 11 = .ok (.ineg, 1) := by decide +kernel
theorem dX0_leastBelow_12 : decode cX0_leastBelow 12 = .ok (.ireturn, 1) := by decide +kernel
theorem dX0_width_0 : decode cX0_width 0 = .ok (.aload_n 0, 1) := by decide +kernel
theorem dX0_width_1 : decode cX0_width 1 = .ok (.iload_n 1, 1) := by decide +kernel
theorem dX0_width_2 : decode cX0_width 2 = .ok (.iload_n 2, 1) := by decide +kernel
theorem dX0_width_3 : decode cX0_width 3 = .ok (.invokevirtual 29, 3) := by decide +kernel
theorem dX0_width_6 : decode cX0_width 6 = .ok (.aload_n 0, 1) := by decide +kernel
theorem dX0_width_7 : decode cX0_width 7 = .ok (.iload_n 1, 1) := by decide +kernel
theorem dX0_width_8 : decode cX0_width 8 = .ok (.iload_n 2, 1) := by decide +kernel
theorem dX0_width_9 : decode cX0_width 9 = .ok (.invokevirtual 33, 3) := by decide +kernel
theorem dX0_width_12 : decode cX0_width 12 = .ok (.isub, 1) := by decide +kernel
theorem dX0_width_13 : decode cX0_width 13 = .ok (.iconst 1, 1) := by decide +kernel
theorem dX0_width_14 : decode cX0_width 14 = .ok (.iadd, 1) := by decide +kernel
theorem dX0_width_15 : decode cX0_width 15 = .ok (.ireturn, 1) := by decide +kernel
theorem dX0_widestPair_0 : decode cX0_widestPair 0 = .ok (.iconst 1, 1) := by decide +kernel
theorem dX0_widestPair_1 : decode cX0_widestPair 1 = .ok (.istore_n 1, 1) := by decide +kernel
theorem dX0_widestPair_2 : decode cX0_widestPair 2 = .ok (.iconst 0, 1) := by decide +kernel
theorem dX0_widestPair_3 : decode cX0_widestPair 3 = .ok (.istore_n 2, 1) := by decide +kernel
theorem dX0_widestPair_4 : decode cX0_widestPair 4 = .ok (.iconst 0, 1) := by decide +kernel
theorem dX0_widestPair_5 : decode cX0_widestPair 5 = .ok (.istore_n 3, 1) := by decide +kernel
theorem dX0_widestPair_6 : decode cX0_widestPair 6 = .ok (.iload_n 3, 1) := by decide +kernel
theorem dX0_widestPair_7 : decode cX0_widestPair 7 = .ok (.bipush 8, 2) := by decide +kernel
theorem dX0_widestPair_9 : decode cX0_widestPair 9 = .ok (.if_icmp .ge 54, 3) := by decide +kernel
theorem dX0_widestPair_12 : decode cX0_widestPair 12 = .ok (.iload_n 3, 1) := by decide +kernel
theorem dX0_widestPair_13 : decode cX0_widestPair 13 = .ok (.iconst 1, 1) := by decide +kernel
theorem dX0_widestPair_14 : decode cX0_widestPair 14 = .ok (.iadd, 1) := by decide +kernel
theorem dX0_widestPair_15 : decode cX0_widestPair 15 = .ok (.istore 4, 2) := by decide +kernel
theorem dX0_widestPair_17 : decode cX0_widestPair 17 = .ok (.iload 4, 2) := by decide +kernel
theorem dX0_widestPair_19 : decode cX0_widestPair 19 = .ok (.bipush 8, 2) := by decide +kernel
theorem dX0_widestPair_21 : decode cX0_widestPair 21 = .ok (.if_icmp .ge 36, 3) := by decide +kernel
theorem dX0_widestPair_24 : decode cX0_widestPair 24 = .ok (.aload_n 0, 1) := by decide +kernel
theorem dX0_widestPair_25 : decode cX0_widestPair 25 = .ok (.iload_n 3, 1) := by decide +kernel
theorem dX0_widestPair_26 : decode cX0_widestPair 26 = .ok (.iload 4, 2) := by decide +kernel
theorem dX0_widestPair_28 : decode cX0_widestPair 28 = .ok (.invokevirtual 36, 3) := by decide +kernel
theorem dX0_widestPair_31 : decode cX0_widestPair 31 = .ok (.iload_n 2, 1) := by decide +kernel
theorem dX0_widestPair_32 : decode cX0_widestPair 32 = .ok (.if_icmp .le 19, 3) := by decide +kernel
theorem dX0_widestPair_35 : decode cX0_widestPair 35 = .ok (.aload_n 0, 1) := by decide +kernel
theorem dX0_widestPair_36 : decode cX0_widestPair 36 = .ok (.iload_n 3, 1) := by decide +kernel
theorem dX0_widestPair_37 : decode cX0_widestPair 37 = .ok (.iload 4, 2) := by decide +kernel
theorem dX0_widestPair_39 : decode cX0_widestPair 39 = .ok (.invokevirtual 36, 3) := by decide +kernel
theorem dX0_widestPair_42 : decode cX0_widestPair 42 = .ok (.istore_n 2, 1) := by decide +kernel
theorem dX0_widestPair_43 : decode cX0_widestPair 43 = .ok (.iload_n 3, 1) := by decide +kernel
theorem dX0_widestPair_44 : decode cX0_widestPair 44 = .ok (.bipush 8, 2) := by decide +kernel
theorem dX0_widestPair_46 : decode cX0_widestPair 46 = .ok (.imul, 1) := by decide +kernel
theorem dX0_widestPair_47 : decode cX0_widestPair 47 = .ok (.iload 4, 2) := by decide +kernel
theorem dX0_widestPair_49 : decode cX0_widestPair 49 = .ok (.iadd, 1) := by decide +kernel
theorem dX0_widestPair_50 : decode cX0_widestPair 50 = .ok (.istore_n 1, 1) := by decide +kernel
theorem dX0_widestPair_51 : decode cX0_widestPair 51 = .ok (.iinc 4 1, 3) := by decide +kernel
theorem dX0_widestPair_54 : decode cX0_widestPair 54 = .ok (.goto (-37), 3) := by decide +kernel
theorem dX0_widestPair_57 : decode cX0_widestPair 57 = .ok (.iinc 3 1, 3) := by decide +kernel
theorem dX0_widestPair_60 : decode cX0_widestPair 60 = .ok (.goto (-54), 3) := by decide +kernel
theorem dX0_widestPair_63 : decode cX0_widestPair 63 = .ok (.iload_n 1, 1) := by decide +kernel
theorem dX0_widestPair_64 : decode cX0_widestPair 64 = .ok (.ireturn, 1) := by decide +kernel
theorem dX0_allWidths_0 : decode cX0_allWidths 0 = .ok (.iconst 0, 1) := by decide +kernel
theorem dX0_allWidths_1 : decode cX0_allWidths 1 = .ok (.istore_n 1, 1) := by decide +kernel
theorem dX0_allWidths_2 : decode cX0_allWidths 2 = .ok (.iconst 0, 1) := by decide +kernel
theorem dX0_allWidths_3 : decode cX0_allWidths 3 = .ok (.istore_n 2, 1) := by decide +kernel
theorem dX0_allWidths_4 : decode cX0_allWidths 4 = .ok (.iload_n 2, 1) := by decide +kernel
theorem dX0_allWidths_5 : decode cX0_allWidths 5 = .ok (.bipush 8, 2) := by decide +kernel
theorem dX0_allWidths_7 : decode cX0_allWidths 7 = .ok (.if_icmp .ge 34, 3) := by decide +kernel
theorem dX0_allWidths_10 : decode cX0_allWidths 10 = .ok (.iload_n 2, 1) := by decide +kernel
theorem dX0_allWidths_11 : decode cX0_allWidths 11 = .ok (.iconst 1, 1) := by decide +kernel
theorem dX0_allWidths_12 : decode cX0_allWidths 12 = .ok (.iadd, 1) := by decide +kernel
theorem dX0_allWidths_13 : decode cX0_allWidths 13 = .ok (.istore_n 3, 1) := by decide +kernel
theorem dX0_allWidths_14 : decode cX0_allWidths 14 = .ok (.iload_n 3, 1) := by decide +kernel
theorem dX0_allWidths_15 : decode cX0_allWidths 15 = .ok (.bipush 8, 2) := by decide +kernel
theorem dX0_allWidths_17 : decode cX0_allWidths 17 = .ok (.if_icmp .ge 18, 3) := by decide +kernel
theorem dX0_allWidths_20 : decode cX0_allWidths 20 = .ok (.iload_n 1, 1) := by decide +kernel
theorem dX0_allWidths_21 : decode cX0_allWidths 21 = .ok (.aload_n 0, 1) := by decide +kernel
theorem dX0_allWidths_22 : decode cX0_allWidths 22 = .ok (.iload_n 2, 1) := by decide +kernel
theorem dX0_allWidths_23 : decode cX0_allWidths 23 = .ok (.iload_n 3, 1) := by decide +kernel
theorem dX0_allWidths_24 : decode cX0_allWidths 24 = .ok (.invokevirtual 36, 3) := by decide +kernel
theorem dX0_allWidths_27 : decode cX0_allWidths 27 = .ok (.iadd, 1) := by decide +kernel
theorem dX0_allWidths_28 : decode cX0_allWidths 28 = .ok (.istore_n 1, 1) := by decide +kernel
theorem dX0_allWidths_29 : decode cX0_allWidths 29 = .ok (.iinc 3 1, 3) := by decide +kernel
theorem dX0_allWidths_32 : decode cX0_allWidths 32 = .ok (.goto (-18), 3) := by decide +kernel
theorem dX0_allWidths_35 : decode cX0_allWidths 35 = .ok (.iinc 2 1, 3) := by decide +kernel
theorem dX0_allWidths_38 : decode cX0_allWidths 38 = .ok (.goto (-34), 3) := by decide +kernel
theorem dX0_allWidths_41 : decode cX0_allWidths 41 = .ok (.iload_n 1, 1) := by decide +kernel
theorem dX0_allWidths_42 : decode cX0_allWidths 42 = .ok (.ireturn, 1) := by decide +kernel
theorem dX0_allows_0 : decode cX0_allows 0 = .ok (.iload_n 3, 1) := by decide +kernel
theorem dX0_allows_1 : decode cX0_allows 1 = .ok (.aload_n 0, 1) := by decide +kernel
theorem dX0_allows_2 : decode cX0_allows 2 = .ok (.iload_n 1, 1) := by decide +kernel
theorem dX0_allows_3 : decode cX0_allows 3 = .ok (.iload_n 2, 1) := by decide +kernel
theorem dX0_allows_4 : decode cX0_allows 4 = .ok (.invokevirtual 29, 3) := by decide +kernel
theorem dX0_allows_7 : decode cX0_allows 7 = .ok (.if_icmp .gt 18, 3) := by decide +kernel
theorem dX0_allows_10 : decode cX0_allows 10 = .ok (.iload 4, 2) := by decide +kernel
theorem dX0_allows_12 : decode cX0_allows 12 = .ok (.aload_n 0, 1) := by decide +kernel
theorem dX0_allows_13 : decode cX0_allows 13 = .ok (.iload_n 1, 1) := by decide +kernel
theorem dX0_allows_14 : decode cX0_allows 14 = .ok (.iload_n 2, 1) := by decide +kernel
theorem dX0_allows_15 : decode cX0_allows 15 = .ok (.invokevirtual 33, 3) := by decide +kernel
theorem dX0_allows_18 : decode cX0_allows 18 = .ok (.if_icmp .lt 7, 3) := by decide +kernel
theorem dX0_allows_21 : decode cX0_allows 21 = .ok (.iconst 1, 1) := by decide +kernel
theorem dX0_allows_22 : decode cX0_allows 22 = .ok (.goto 4, 3) := by decide +kernel
theorem dX0_allows_25 : decode cX0_allows 25 = .ok (.iconst 0, 1) := by decide +kernel
theorem dX0_allows_26 : decode cX0_allows 26 = .ok (.ireturn, 1) := by decide +kernel
theorem dX0_implies_0 : decode cX0_implies 0 = .ok (.aload_n 0, 1) := by decide +kernel
theorem dX0_implies_1 : decode cX0_implies 1 = .ok (.aload_n 1, 1) := by decide +kernel
theorem dX0_implies_2 : decode cX0_implies 2 = .ok (.getfield 39, 3) := by decide +kernel
theorem dX0_implies_5 : decode cX0_implies 5 = .ok (.aload_n 1, 1) := by decide +kernel
theorem dX0_implies_6 : decode cX0_implies 6 = .ok (.getfield 45, 3) := by decide +kernel
theorem dX0_implies_9 : decode cX0_implies 9 = .ok (.invokevirtual 33, 3) := by decide +kernel
theorem dX0_implies_12 : decode cX0_implies 12 = .ok (.aload_n 1, 1) := by decide +kernel
theorem dX0_implies_13 : decode cX0_implies 13 = .ok (.iload_n 2, 1) := by decide +kernel
theorem dX0_implies_14 : decode cX0_implies 14 = .ok (.invokevirtual 48, 3) := by decide +kernel
theorem dX0_implies_17 : decode cX0_implies 17 = .ok (.if_icmp .lt 27, 3) := by decide +kernel
theorem dX0_implies_20 : decode cX0_implies 20 = .ok (.aload_n 0, 1) := by decide +kernel
theorem dX0_implies_21 : decode cX0_implies 21 = .ok (.aload_n 1, 1) := by decide +kernel
theorem dX0_implies_22 : decode cX0_implies 22 = .ok (.getfield 39, 3) := by decide +kernel
theorem dX0_implies_25 : decode cX0_implies 25 = .ok (.aload_n 1, 1) := by decide +kernel
theorem dX0_implies_26 : decode cX0_implies 26 = .ok (.getfield 45, 3) := by decide +kernel
theorem dX0_implies_29 : decode cX0_implies 29 = .ok (.invokevirtual 29, 3) := by decide +kernel
theorem dX0_implies_32 : decode cX0_implies 32 = .ok (.aload_n 1, 1) := by decide +kernel
theorem dX0_implies_33 : decode cX0_implies 33 = .ok (.iload_n 2, 1) := by decide +kernel
theorem dX0_implies_34 : decode cX0_implies 34 = .ok (.invokevirtual 52, 3) := by decide +kernel
theorem dX0_implies_37 : decode cX0_implies 37 = .ok (.if_icmp .gt 7, 3) := by decide +kernel
theorem dX0_implies_40 : decode cX0_implies 40 = .ok (.iconst 1, 1) := by decide +kernel
theorem dX0_implies_41 : decode cX0_implies 41 = .ok (.goto 4, 3) := by decide +kernel
theorem dX0_implies_44 : decode cX0_implies 44 = .ok (.iconst 0, 1) := by decide +kernel
theorem dX0_implies_45 : decode cX0_implies 45 = .ok (.ireturn, 1) := by decide +kernel
theorem dX1_init_0 : decode cX1_init 0 = .ok (.aload_n 0, 1) := by decide +kernel
theorem dX1_init_1 : decode cX1_init 1 = .ok (.invokespecial 3, 3) := by decide +kernel
theorem dX1_init_4 : decode cX1_init 4 = .ok (.aload_n 0, 1) := by decide +kernel
theorem dX1_init_5 : decode cX1_init 5 = .ok (.iconst 0, 1) := by decide +kernel
theorem dX1_init_6 : decode cX1_init 6 = .ok (.putfield 11, 3) := by decide +kernel
theorem dX1_init_9 : decode cX1_init 9 = .ok (.aload_n 0, 1) := by decide +kernel
theorem dX1_init_10 : decode cX1_init 10 = .ok (.iconst 0, 1) := by decide +kernel
theorem dX1_init_11 : decode cX1_init 11 = .ok (.putfield 15, 3) := by decide +kernel
theorem dX1_init_14 : decode cX1_init 14 = .ok (.aload_n 0, 1) := by decide +kernel
theorem dX1_init_15 : decode cX1_init 15 = .ok (.iconst 0, 1) := by decide +kernel
theorem dX1_init_16 : decode cX1_init 16 = .ok (.putfield 18, 3) := by decide +kernel
theorem dX1_init_19 : decode cX1_init 19 = .ok (.aload_n 0, 1) := by decide +kernel
theorem dX1_init_20 : decode cX1_init 20 = .ok (.iconst 0, 1) := by decide +kernel
theorem dX1_init_21 : decode cX1_init 21 = .ok (.putfield 21, 3) := by decide +kernel
theorem dX1_init_24 : decode cX1_init 24 = .ok (.aload_n 0, 1) := by decide +kernel
theorem dX1_init_25 : decode cX1_init 25 = .ok (.iconst 0, 1) := by decide +kernel
theorem dX1_init_26 : decode cX1_init 26 = .ok (.putfield 24, 3) := by decide +kernel
theorem dX1_init_29 : decode cX1_init 29 = .ok (.aload_n 0, 1) := by decide +kernel
theorem dX1_init_30 : decode cX1_init 30 = .ok (.iconst 0, 1) := by decide +kernel
theorem dX1_init_31 : decode cX1_init 31 = .ok (.putfield 27, 3) := by decide +kernel
theorem dX1_init_34 : decode cX1_init 34 = .ok (.return_, 1) := by decide +kernel
theorem dX1_kindAbove_0 : decode cX1_kindAbove 0 = .ok (.iload_n 0, 1) := by decide +kernel
theorem dX1_kindAbove_1 : decode cX1_kindAbove 1 = .ok (.tableswitch 47 1 6 #[39, 39, 41, 43, 39, 45], 39) := by decide +kernel
theorem dX1_kindAbove_40 : decode cX1_kindAbove 40 = .ok (.iconst 0, 1) := by decide +kernel
theorem dX1_kindAbove_41 : decode cX1_kindAbove 41 = .ok (.ireturn, 1) := by decide +kernel
theorem dX1_kindAbove_42 : decode cX1_kindAbove 42 = .ok (.iconst 2, 1) := by decide +kernel
theorem dX1_kindAbove_43 : decode cX1_kindAbove 43 = .ok (.ireturn, 1) := by decide +kernel
theorem dX1_kindAbove_44 : decode cX1_kindAbove 44 = .ok (.iconst 3, 1) := by decide +kernel
theorem dX1_kindAbove_45 : decode cX1_kindAbove 45 = .ok (.ireturn, 1) := by decide +kernel
theorem dX1_kindAbove_46 : decode cX1_kindAbove 46 = .ok (.iconst 1, 1) := by decide +kernel
theorem dX1_kindAbove_47 : decode cX1_kindAbove 47 = .ok (.ireturn, 1) := by decide +kernel
theorem dX1_kindAbove_48 : decode cX1_kindAbove 48 = .ok (.iconst (-1), 1) := by decide +kernel
theorem dX1_kindAbove_49 : decode cX1_kindAbove 49 = .ok (.ireturn, 1) := by decide +kernel
theorem dX1_kindName_0 : decode cX1_kindName 0 = .ok (.iload_n 0, 1) := by decide +kernel
theorem dX1_kindName_1 : decode cX1_kindName 1 = .ok (.tableswitch 57 1 6 #[39, 42, 45, 48, 51, 54], 39) := by decide +kernel
theorem dX1_kindName_40 : decode cX1_kindName 40 = .ok (.ldc 30, 2) := by decide +kernel
theorem dX1_kindName_42 : decode cX1_kindName 42 = .ok (.areturn, 1) := by decide +kernel
theorem dX1_kindName_43 : decode cX1_kindName 43 = .ok (.ldc 32, 2) := by decide +kernel
theorem dX1_kindName_45 : decode cX1_kindName 45 = .ok (.areturn, 1) := by decide +kernel
theorem dX1_kindName_46 : decode cX1_kindName 46 = .ok (.ldc 34, 2) := by decide +kernel
theorem dX1_kindName_48 : decode cX1_kindName 48 = .ok (.areturn, 1) := by decide +kernel
theorem dX1_kindName_49 : decode cX1_kindName 49 = .ok (.ldc 36, 2) := by decide +kernel
theorem dX1_kindName_51 : decode cX1_kindName 51 = .ok (.areturn, 1) := by decide +kernel
theorem dX1_kindName_52 : decode cX1_kindName 52 = .ok (.ldc 38, 2) := by decide +kernel
theorem dX1_kindName_54 : decode cX1_kindName 54 = .ok (.areturn, 1) := by decide +kernel
theorem dX1_kindName_55 : decode cX1_kindName 55 = .ok (.ldc 40, 2) := by decide +kernel
theorem dX1_kindName_57 : decode cX1_kindName 57 = .ok (.areturn, 1) := by decide +kernel
theorem dX1_kindName_58 : decode cX1_kindName 58 = .ok (.ldc 42, 2) := by decide +kernel
theorem dX1_kindName_60 : decode cX1_kindName 60 = .ok (.areturn, 1) := by decide +kernel
theorem dX1_part_0 : decode cX1_part 0 = .ok (.iload_n 1, 1) := by decide +kernel
theorem dX1_part_1 : decode cX1_part 1 = .ok (.tableswitch 60 0 4 #[35, 40, 45, 50, 55], 35) := by decide +kernel
theorem dX1_part_36 : decode cX1_part 36 = .ok (.aload_n 0, 1) := by decide +kernel
theorem dX1_part_37 : decode cX1_part 37 = .ok (.getfield 11, 3) := by decide +kernel
theorem dX1_part_40 : decode cX1_part 40 = .ok (.ireturn, 1) := by decide +kernel
theorem dX1_part_41 : decode cX1_part 41 = .ok (.aload_n 0, 1) := by decide +kernel
theorem dX1_part_42 : decode cX1_part 42 = .ok (.getfield 15, 3) := by decide +kernel
theorem dX1_part_45 : decode cX1_part 45 = .ok (.ireturn, 1) := by decide +kernel
theorem dX1_part_46 : decode cX1_part 46 = .ok (.aload_n 0, 1) := by decide +kernel
theorem dX1_part_47 : decode cX1_part 47 = .ok (.getfield 18, 3) := by decide +kernel
theorem dX1_part_50 : decode cX1_part 50 = .ok (.ireturn, 1) := by decide +kernel
theorem dX1_part_51 : decode cX1_part 51 = .ok (.aload_n 0, 1) := by decide +kernel
theorem dX1_part_52 : decode cX1_part 52 = .ok (.getfield 21, 3) := by decide +kernel
theorem dX1_part_55 : decode cX1_part 55 = .ok (.ireturn, 1) := by decide +kernel
theorem dX1_part_56 : decode cX1_part 56 = .ok (.aload_n 0, 1) := by decide +kernel
theorem dX1_part_57 : decode cX1_part 57 = .ok (.getfield 24, 3) := by decide +kernel
theorem dX1_part_60 : decode cX1_part 60 = .ok (.ireturn, 1) := by decide +kernel
theorem dX1_part_61 : decode cX1_part 61 = .ok (.aload_n 0, 1) := by decide +kernel
theorem dX1_part_62 : decode cX1_part 62 = .ok (.getfield 27, 3) := by decide +kernel
theorem dX1_part_65 : decode cX1_part 65 = .ok (.ireturn, 1) := by decide +kernel
theorem dX1_setPart_0 : decode cX1_setPart 0 = .ok (.iload_n 1, 1) := by decide +kernel
theorem dX1_setPart_1 : decode cX1_setPart 1 = .ok (.tableswitch 75 0 4 #[35, 43, 51, 59, 67], 35) := by decide +kernel
theorem dX1_setPart_36 : decode cX1_setPart 36 = .ok (.aload_n 0, 1) := by decide +kernel
theorem dX1_setPart_37 : decode cX1_setPart 37 = .ok (.iload_n 2, 1) := by decide +kernel
theorem dX1_setPart_38 : decode cX1_setPart 38 = .ok (.putfield 11, 3) := by decide +kernel
theorem dX1_setPart_41 : decode cX1_setPart 41 = .ok (.goto 40, 3) := by decide +kernel
theorem dX1_setPart_44 : decode cX1_setPart 44 = .ok (.aload_n 0, 1) := by decide +kernel
theorem dX1_setPart_45 : decode cX1_setPart 45 = .ok (.iload_n 2, 1) := by decide +kernel
theorem dX1_setPart_46 : decode cX1_setPart 46 = .ok (.putfield 15, 3) := by decide +kernel
theorem dX1_setPart_49 : decode cX1_setPart 49 = .ok (.goto 32, 3) := by decide +kernel
theorem dX1_setPart_52 : decode cX1_setPart 52 = .ok (.aload_n 0, 1) := by decide +kernel
theorem dX1_setPart_53 : decode cX1_setPart 53 = .ok (.iload_n 2, 1) := by decide +kernel
theorem dX1_setPart_54 : decode cX1_setPart 54 = .ok (.putfield 18, 3) := by decide +kernel
theorem dX1_setPart_57 : decode cX1_setPart 57 = .ok (.goto 24, 3) := by decide +kernel
theorem dX1_setPart_60 : decode cX1_setPart 60 = .ok (.aload_n 0, 1) := by decide +kernel
theorem dX1_setPart_61 : decode cX1_setPart 61 = .ok (.iload_n 2, 1) := by decide +kernel
theorem dX1_setPart_62 : decode cX1_setPart 62 = .ok (.putfield 21, 3) := by decide +kernel
theorem dX1_setPart_65 : decode cX1_setPart 65 = .ok (.goto 16, 3) := by decide +kernel
theorem dX1_setPart_68 : decode cX1_setPart 68 = .ok (.aload_n 0, 1) := by decide +kernel
theorem dX1_setPart_69 : decode cX1_setPart 69 = .ok (.iload_n 2, 1) := by decide +kernel
theorem dX1_setPart_70 : decode cX1_setPart 70 = .ok (.putfield 24, 3) := by decide +kernel
theorem dX1_setPart_73 : decode cX1_setPart 73 = .ok (.goto 8, 3) := by decide +kernel
theorem dX1_setPart_76 : decode cX1_setPart 76 = .ok (.aload_n 0, 1) := by decide +kernel
theorem dX1_setPart_77 : decode cX1_setPart 77 = .ok (.iload_n 2, 1) := by decide +kernel
theorem dX1_setPart_78 : decode cX1_setPart 78 = .ok (.putfield 27, 3) := by decide +kernel
theorem dX1_setPart_81 : decode cX1_setPart 81 = .ok (.return_, 1) := by decide +kernel
theorem dX1_become_0 : decode cX1_become 0 = .ok (.aload_n 0, 1) := by decide +kernel
theorem dX1_become_1 : decode cX1_become 1 = .ok (.aload_n 1, 1) := by decide +kernel
theorem dX1_become_2 : decode cX1_become 2 = .ok (.getfield 11, 3) := by decide +kernel
theorem dX1_become_5 : decode cX1_become 5 = .ok (.putfield 11, 3) := by decide +kernel
theorem dX1_become_8 : decode cX1_become 8 = .ok (.aload_n 0, 1) := by decide +kernel
theorem dX1_become_9 : decode cX1_become 9 = .ok (.aload_n 1, 1) := by decide +kernel
theorem dX1_become_10 : decode cX1_become 10 = .ok (.getfield 15, 3) := by decide +kernel
theorem dX1_become_13 : decode cX1_become 13 = .ok (.putfield 15, 3) := by decide +kernel
theorem dX1_become_16 : decode cX1_become 16 = .ok (.aload_n 0, 1) := by decide +kernel
theorem dX1_become_17 : decode cX1_become 17 = .ok (.aload_n 1, 1) := by decide +kernel
theorem dX1_become_18 : decode cX1_become 18 = .ok (.getfield 18, 3) := by decide +kernel
theorem dX1_become_21 : decode cX1_become 21 = .ok (.putfield 18, 3) := by decide +kernel
theorem dX1_become_24 : decode cX1_become 24 = .ok (.aload_n 0, 1) := by decide +kernel
theorem dX1_become_25 : decode cX1_become 25 = .ok (.aload_n 1, 1) := by decide +kernel
theorem dX1_become_26 : decode cX1_become 26 = .ok (.getfield 21, 3) := by decide +kernel
theorem dX1_become_29 : decode cX1_become 29 = .ok (.putfield 21, 3) := by decide +kernel
theorem dX1_become_32 : decode cX1_become 32 = .ok (.aload_n 0, 1) := by decide +kernel
theorem dX1_become_33 : decode cX1_become 33 = .ok (.aload_n 1, 1) := by decide +kernel
theorem dX1_become_34 : decode cX1_become 34 = .ok (.getfield 24, 3) := by decide +kernel
theorem dX1_become_37 : decode cX1_become 37 = .ok (.putfield 24, 3) := by decide +kernel
theorem dX1_become_40 : decode cX1_become 40 = .ok (.aload_n 0, 1) := by decide +kernel
theorem dX1_become_41 : decode cX1_become 41 = .ok (.aload_n 1, 1) := by decide +kernel
theorem dX1_become_42 : decode cX1_become 42 = .ok (.getfield 27, 3) := by decide +kernel
theorem dX1_become_45 : decode cX1_become 45 = .ok (.putfield 27, 3) := by decide +kernel
theorem dX1_become_48 : decode cX1_become 48 = .ok (.return_, 1) := by decide +kernel
theorem dX1_least_0 : decode cX1_least 0 = .ok (.aload_n 0, 1) := by decide +kernel
theorem dX1_least_1 : decode cX1_least 1 = .ok (.getfield 11, 3) := by decide +kernel
theorem dX1_least_4 : decode cX1_least 4 = .ok (.tableswitch 72 1 6 #[40, 53, 58, 64, 44, 40], 40) := by decide +kernel
theorem dX1_least_44 : decode cX1_least 44 = .ok (.sipush (-999), 3) := by decide +kernel
theorem dX1_least_47 : decode cX1_least 47 = .ok (.ireturn, 1) := by decide +kernel
theorem dX1_least_48 : decode cX1_least 48 = .ok (.aload_n 0, 1) := by decide +kernel
theorem dX1_least_49 : decode cX1_least 49 = .ok (.getfield 21, 3) := by decide +kernel
theorem dX1_least_52 : decode cX1_least 52 = .ok (.iload_n 1, 1) := by decide +kernel
theorem dX1_least_53 : decode cX1_least 53 = .ok (.isub, 1) := by decide +kernel
theorem dX1_least_54 : decode cX1_least 54 = .ok (.iload_n 1, 1) := by decide +kernel
theorem dX1_least_55 : decode cX1_least 55 = .ok (.isub, 1) := by decide +kernel
theorem dX1_least_56 : decode cX1_least 56 = .ok (.ireturn, 1) := by decide +kernel
theorem dX1_least_57 : decode cX1_least 57 = .ok (.aload_n 0, 1) := by decide +kernel
theorem dX1_least_58 : decode cX1_least 58 = .ok (.getfield 21, 3) := by decide +kernel
theorem dX1_least_61 : decode cX1_least 61 = .ok (.ireturn, 1) := by decide +kernel
theorem dX1_least_62 : decode cX1_least 62 = .ok (.aload_n 0, 1) := by decide +kernel
theorem dX1_least_63 : decode cX1_least 63 = .ok (.getfield 21, 3) := by decide +kernel
theorem dX1_least_66 : decode cX1_least 66 = .ok (.ineg, 1) := by decide +kernel
theorem dX1_least_67 : decode cX1_least 67 = .ok (.ireturn, 1) := by decide +kernel
theorem dX1_least_68 : decode cX1_least 68 = .ok (.aload_n 0, 1) := by decide +kernel
theorem dX1_least_69 : decode cX1_least 69 = .ok (.getfield 21, 3) := by decide +kernel
theorem dX1_least_72 : decode cX1_least 72 = .ok (.ineg, 1) := by decide +kernel
theorem dX1_least_73 : decode cX1_least 73 = .ok (.iconst 1, 1) := by decide +kernel
theorem dX1_least_74 : decode cX1_least 74 = .ok (.isub, 1) := by decide +kernel
theorem dX1_least_75 : decode cX1_least 75 = .ok (.ireturn, 1) := by decide +kernel
theorem dX1_least_76 : decode cX1_least 76 = .ok (.aload_n 0, 1) := by decide +kernel
theorem dX1_least_77 : decode cX1_least 77 = .ok (.getfield 21, 3) := by decide +kernel
theorem dX1_least_80 : decode cX1_least 80 = .ok (.iload_n 1, 1) := by decide +kernel
theorem dX1_least_81 : decode cX1_least 81 = .ok (.isub, 1) := by decide +kernel
theorem dX1_least_82 : decode cX1_least 82 = .ok (.ireturn, 1) := by decide +kernel
theorem dX1_most_0 : decode cX1_most 0 = .ok (.aload_n 0, 1) := by decide +kernel
theorem dX1_most_1 : decode cX1_most 1 = .ok (.getfield 11, 3) := by decide +kernel
theorem dX1_most_4 : decode cX1_most 4 = .ok (.tableswitch 73 2 6 #[54, 59, 65, 45, 36], 36) := by decide +kernel
theorem dX1_most_40 : decode cX1_most 40 = .ok (.aload_n 0, 1) := by decide +kernel
theorem dX1_most_41 : decode cX1_most 41 = .ok (.getfield 21, 3) := by decide +kernel
theorem dX1_most_44 : decode cX1_most 44 = .ok (.iload_n 1, 1) := by decide +kernel
theorem dX1_most_45 : decode cX1_most 45 = .ok (.iadd, 1) := by decide +kernel
theorem dX1_most_46 : decode cX1_most 46 = .ok (.iconst 5, 1) := by decide +kernel
theorem dX1_most_47 : decode cX1_most 47 = .ok (.iadd, 1) := by decide +kernel
theorem dX1_most_48 : decode cX1_most 48 = .ok (.ireturn, 1) := by decide +kernel
theorem dX1_most_49 : decode cX1_most 49 = .ok (.aload_n 0, 1) := by decide +kernel
theorem dX1_most_50 : decode cX1_most 50 = .ok (.getfield 21, 3) := by decide +kernel
theorem dX1_most_53 : decode cX1_most 53 = .ok (.iload_n 1, 1) := by decide +kernel
theorem dX1_most_54 : decode cX1_most 54 = .ok (.iadd, 1) := by decide +kernel
theorem dX1_most_55 : decode cX1_most 55 = .ok (.iload_n 1, 1) := by decide +kernel
theorem dX1_most_56 : decode cX1_most 56 = .ok (.iadd, 1) := by decide +kernel
theorem dX1_most_57 : decode cX1_most 57 = .ok (.ireturn, 1) := by decide +kernel
theorem dX1_most_58 : decode cX1_most 58 = .ok (.aload_n 0, 1) := by decide +kernel
theorem dX1_most_59 : decode cX1_most 59 = .ok (.getfield 21, 3) := by decide +kernel
theorem dX1_most_62 : decode cX1_most 62 = .ok (.ireturn, 1) := by decide +kernel
theorem dX1_most_63 : decode cX1_most 63 = .ok (.aload_n 0, 1) := by decide +kernel
theorem dX1_most_64 : decode cX1_most 64 = .ok (.getfield 21, 3) := by decide +kernel
theorem dX1_most_67 : decode cX1_most 67 = .ok (.ineg, 1) := by decide +kernel
theorem dX1_most_68 : decode cX1_most 68 = .ok (.ireturn, 1) := by decide +kernel
theorem dX1_most_69 : decode cX1_most 69 = .ok (.aload_n 0, 1) := by decide +kernel
theorem dX1_most_70 : decode cX1_most 70 = .ok (.getfield 21, 3) := by decide +kernel
theorem dX1_most_73 : decode cX1_most 73 = .ok (.ineg, 1) := by decide +kernel
theorem dX1_most_74 : decode cX1_most 74 = .ok (.iconst 1, 1) := by decide +kernel
theorem dX1_most_75 : decode cX1_most 75 = .ok (.iadd, 1) := by decide +kernel
theorem dX1_most_76 : decode cX1_most 76 = .ok (.ireturn, 1) := by decide +kernel
theorem dX1_most_77 : decode cX1_most 77 = .ok (.aload_n 0, 1) := by decide +kernel
theorem dX1_most_78 : decode cX1_most 78 = .ok (.getfield 21, 3) := by decide +kernel
theorem dX1_most_81 : decode cX1_most 81 = .ok (.iload_n 1, 1) := by decide +kernel
theorem dX1_most_82 : decode cX1_most 82 = .ok (.iadd, 1) := by decide +kernel
theorem dX1_most_83 : decode cX1_most 83 = .ok (.ireturn, 1) := by decide +kernel
theorem dX1_comes_0 : decode cX1_comes 0 = .ok (.aload_n 0, 1) := by decide +kernel
theorem dX1_comes_1 : decode cX1_comes 1 = .ok (.getfield 21, 3) := by decide +kernel
theorem dX1_comes_4 : decode cX1_comes 4 = .ok (.invokestatic 44, 3) := by decide +kernel
theorem dX1_comes_7 : decode cX1_comes 7 = .ok (.istore_n 2, 1) := by decide +kernel
theorem dX1_comes_8 : decode cX1_comes 8 = .ok (.aload_n 0, 1) := by decide +kernel
theorem dX1_comes_9 : decode cX1_comes 9 = .ok (.getfield 11, 3) := by decide +kernel
theorem dX1_comes_12 : decode cX1_comes 12 = .ok (.tableswitch 84 1 6 #[40, 61, 72, 77, 84, 49], 40) := by decide +kernel
theorem dX1_comes_52 : decode cX1_comes 52 = .ok (.aload_n 0, 1) := by decide +kernel
theorem dX1_comes_53 : decode cX1_comes 53 = .ok (.getfield 24, 3) := by decide +kernel
theorem dX1_comes_56 : decode cX1_comes 56 = .ok (.iload_n 2, 1) := by decide +kernel
theorem dX1_comes_57 : decode cX1_comes 57 = .ok (.iconst 2, 1) := by decide +kernel
theorem dX1_comes_58 : decode cX1_comes 58 = .ok (.idiv, 1) := by decide +kernel
theorem dX1_comes_59 : decode cX1_comes 59 = .ok (.iadd, 1) := by decide +kernel
theorem dX1_comes_60 : decode cX1_comes 60 = .ok (.ireturn, 1) := by decide +kernel
theorem dX1_comes_61 : decode cX1_comes 61 = .ok (.aload_n 0, 1) := by decide +kernel
theorem dX1_comes_62 : decode cX1_comes 62 = .ok (.getfield 24, 3) := by decide +kernel
theorem dX1_comes_65 : decode cX1_comes 65 = .ok (.iload_n 2, 1) := by decide +kernel
theorem dX1_comes_66 : decode cX1_comes 66 = .ok (.iconst 2, 1) := by decide +kernel
theorem dX1_comes_67 : decode cX1_comes 67 = .ok (.idiv, 1) := by decide +kernel
theorem dX1_comes_68 : decode cX1_comes 68 = .ok (.iadd, 1) := by decide +kernel
theorem dX1_comes_69 : decode cX1_comes 69 = .ok (.bipush 10, 2) := by decide +kernel
theorem dX1_comes_71 : decode cX1_comes 71 = .ok (.iadd, 1) := by decide +kernel
theorem dX1_comes_72 : decode cX1_comes 72 = .ok (.ireturn, 1) := by decide +kernel
theorem dX1_comes_73 : decode cX1_comes 73 = .ok (.aload_n 0, 1) := by decide +kernel
theorem dX1_comes_74 : decode cX1_comes 74 = .ok (.getfield 24, 3) := by decide +kernel
theorem dX1_comes_77 : decode cX1_comes 77 = .ok (.iload_n 2, 1) := by decide +kernel
theorem dX1_comes_78 : decode cX1_comes 78 = .ok (.iadd, 1) := by decide +kernel
theorem dX1_comes_79 : decode cX1_comes 79 = .ok (.iload_n 1, 1) := by decide +kernel
theorem dX1_comes_80 : decode cX1_comes 80 = .ok (.iadd, 1) := by decide +kernel
theorem dX1_comes_81 : decode cX1_comes 81 = .ok (.iconst 1, 1) := by decide +kernel
theorem dX1_comes_82 : decode cX1_comes 82 = .ok (.iadd, 1) := by decide +kernel
theorem dX1_comes_83 : decode cX1_comes 83 = .ok (.ireturn, 1) := by decide +kernel
theorem dX1_comes_84 : decode cX1_comes 84 = .ok (.aload_n 0, 1) := by decide +kernel
theorem dX1_comes_85 : decode cX1_comes 85 = .ok (.getfield 24, 3) := by decide +kernel
theorem dX1_comes_88 : decode cX1_comes 88 = .ok (.ireturn, 1) := by decide +kernel
theorem dX1_comes_89 : decode cX1_comes 89 = .ok (.aload_n 0, 1) := by decide +kernel
theorem dX1_comes_90 : decode cX1_comes 90 = .ok (.getfield 24, 3) := by decide +kernel
theorem dX1_comes_93 : decode cX1_comes 93 = .ok (.iconst 2, 1) := by decide +kernel
theorem dX1_comes_94 : decode cX1_comes 94 = .ok (.iadd, 1) := by decide +kernel
theorem dX1_comes_95 : decode cX1_comes 95 = .ok (.ireturn, 1) := by decide +kernel
theorem dX1_comes_96 : decode cX1_comes 96 = .ok (.aload_n 0, 1) := by decide +kernel
theorem dX1_comes_97 : decode cX1_comes 97 = .ok (.getfield 24, 3) := by decide +kernel
theorem dX1_comes_100 : decode cX1_comes 100 = .ok (.iload_n 2, 1) := by decide +kernel
theorem dX1_comes_101 : decode cX1_comes 101 = .ok (.iadd, 1) := by decide +kernel
theorem dX1_comes_102 : decode cX1_comes 102 = .ok (.iload_n 1, 1) := by decide +kernel
theorem dX1_comes_103 : decode cX1_comes 103 = .ok (.iadd, 1) := by decide +kernel
theorem dX1_comes_104 : decode cX1_comes 104 = .ok (.ireturn, 1) := by decide +kernel
theorem dX2_init_0 : decode cX2_init 0 = .ok (.aload_n 0, 1) := by decide +kernel
theorem dX2_init_1 : decode cX2_init 1 = .ok (.invokespecial 3, 3) := by decide +kernel
theorem dX2_init_4 : decode cX2_init 4 = .ok (.aload_n 0, 1) := by decide +kernel
theorem dX2_init_5 : decode cX2_init 5 = .ok (.bipush 8, 2) := by decide +kernel
theorem dX2_init_7 : decode cX2_init 7 = .ok (.anewarray 9, 3) := by decide +kernel
theorem dX2_init_10 : decode cX2_init 10 = .ok (.putfield 11, 3) := by decide +kernel
theorem dX2_init_13 : decode cX2_init 13 = .ok (.aload_n 0, 1) := by decide +kernel
theorem dX2_init_14 : decode cX2_init 14 = .ok (.iconst 0, 1) := by decide +kernel
theorem dX2_init_15 : decode cX2_init 15 = .ok (.putfield 17, 3) := by decide +kernel
theorem dX2_init_18 : decode cX2_init 18 = .ok (.aload_n 0, 1) := by decide +kernel
theorem dX2_init_19 : decode cX2_init 19 = .ok (.iconst 0, 1) := by decide +kernel
theorem dX2_init_20 : decode cX2_init 20 = .ok (.putfield 21, 3) := by decide +kernel
theorem dX2_init_23 : decode cX2_init 23 = .ok (.aload_n 0, 1) := by decide +kernel
theorem dX2_init_24 : decode cX2_init 24 = .ok (.iconst 0, 1) := by decide +kernel
theorem dX2_init_25 : decode cX2_init 25 = .ok (.putfield 24, 3) := by decide +kernel
theorem dX2_init_28 : decode cX2_init 28 = .ok (.aload_n 0, 1) := by decide +kernel
theorem dX2_init_29 : decode cX2_init 29 = .ok (.iconst 0, 1) := by decide +kernel
theorem dX2_init_30 : decode cX2_init 30 = .ok (.putfield 27, 3) := by decide +kernel
theorem dX2_init_33 : decode cX2_init 33 = .ok (.aload_n 0, 1) := by decide +kernel
theorem dX2_init_34 : decode cX2_init 34 = .ok (.iconst 1, 1) := by decide +kernel
theorem dX2_init_35 : decode cX2_init 35 = .ok (.putfield 30, 3) := by decide +kernel
theorem dX2_init_38 : decode cX2_init 38 = .ok (.aload_n 0, 1) := by decide +kernel
theorem dX2_init_39 : decode cX2_init 39 = .ok (.bipush 10, 2) := by decide +kernel
theorem dX2_init_41 : decode cX2_init 41 = .ok (.newarray .int, 2) := by decide +kernel
theorem dX2_init_43 : decode cX2_init 43 = .ok (.putfield 33, 3) := by decide +kernel
theorem dX2_init_46 : decode cX2_init 46 = .ok (.iconst 0, 1) := by decide +kernel
theorem dX2_init_47 : decode cX2_init 47 = .ok (.istore_n 1, 1) := by decide +kernel
theorem dX2_init_48 : decode cX2_init 48 = .ok (.iload_n 1, 1) := by decide +kernel
theorem dX2_init_49 : decode cX2_init 49 = .ok (.bipush 8, 2) := by decide +kernel
theorem dX2_init_51 : decode cX2_init 51 = .ok (.if_icmp .ge 22, 3) := by decide +kernel
theorem dX2_init_54 : decode cX2_init 54 = .ok (.aload_n 0, 1) := by decide +kernel
theorem dX2_init_55 : decode cX2_init 55 = .ok (.getfield 11, 3) := by decide +kernel
theorem dX2_init_58 : decode cX2_init 58 = .ok (.iload_n 1, 1) := by decide +kernel
theorem dX2_init_59 : decode cX2_init 59 = .ok (.new 9, 3) := by decide +kernel
theorem dX2_init_62 : decode cX2_init 62 = .ok (.dup, 1) := by decide +kernel
theorem dX2_init_63 : decode cX2_init 63 = .ok (.invokespecial 37, 3) := by decide +kernel
theorem dX2_init_66 : decode cX2_init 66 = .ok (.aastore, 1) := by decide +kernel
theorem dX2_init_67 : decode cX2_init 67 = .ok (.iinc 1 1, 3) := by decide +kernel
theorem dX2_init_70 : decode cX2_init 70 = .ok (.goto (-22), 3) := by decide +kernel
theorem dX2_init_73 : decode cX2_init 73 = .ok (.aload_n 0, 1) := by decide +kernel
theorem dX2_init_74 : decode cX2_init 74 = .ok (.getfield 33, 3) := by decide +kernel
theorem dX2_init_77 : decode cX2_init 77 = .ok (.iconst (-1), 1) := by decide +kernel
theorem dX2_init_78 : decode cX2_init 78 = .ok (.invokestatic 38, 3) := by decide +kernel
theorem dX2_init_81 : decode cX2_init 81 = .ok (.return_, 1) := by decide +kernel
theorem dX2_become_0 : decode cX2_become 0 = .ok (.iconst 0, 1) := by decide +kernel
theorem dX2_become_1 : decode cX2_become 1 = .ok (.istore_n 2, 1) := by decide +kernel
theorem dX2_become_2 : decode cX2_become 2 = .ok (.iload_n 2, 1) := by decide +kernel
theorem dX2_become_3 : decode cX2_become 3 = .ok (.bipush 8, 2) := by decide +kernel
theorem dX2_become_5 : decode cX2_become 5 = .ok (.if_icmp .ge 24, 3) := by decide +kernel
theorem dX2_become_8 : decode cX2_become 8 = .ok (.aload_n 0, 1) := by decide +kernel
theorem dX2_become_9 : decode cX2_become 9 = .ok (.getfield 11, 3) := by decide +kernel
theorem dX2_become_12 : decode cX2_become 12 = .ok (.iload_n 2, 1) := by decide +kernel
theorem dX2_become_13 : decode cX2_become 13 = .ok (.aaload, 1) := by decide +kernel
theorem dX2_become_14 : decode cX2_become 14 = .ok (.aload_n 1, 1) := by decide +kernel
theorem dX2_become_15 : decode cX2_become 15 = .ok (.getfield 11, 3) := by decide +kernel
theorem dX2_become_18 : decode cX2_become 18 = .ok (.iload_n 2, 1) := by decide +kernel
theorem dX2_become_19 : decode cX2_become 19 = .ok (.aaload, 1) := by decide +kernel
theorem dX2_become_20 : decode cX2_become 20 = .ok (.invokevirtual 44, 3) := by decide +kernel
theorem dX2_become_23 : decode cX2_become 23 = .ok (.iinc 2 1, 3) := by decide +kernel
theorem dX2_become_26 : decode cX2_become 26 = .ok (.goto (-24), 3) := by decide +kernel
theorem dX2_become_29 : decode cX2_become 29 = .ok (.aload_n 0, 1) := by decide +kernel
theorem dX2_become_30 : decode cX2_become 30 = .ok (.aload_n 1, 1) := by decide +kernel
theorem dX2_become_31 : decode cX2_become 31 = .ok (.getfield 17, 3) := by decide +kernel
theorem dX2_become_34 : decode cX2_become 34 = .ok (.putfield 17, 3) := by decide +kernel
theorem dX2_become_37 : decode cX2_become 37 = .ok (.aload_n 0, 1) := by decide +kernel
theorem dX2_become_38 : decode cX2_become 38 = .ok (.aload_n 1, 1) := by decide +kernel
theorem dX2_become_39 : decode cX2_become 39 = .ok (.getfield 21, 3) := by decide +kernel
theorem dX2_become_42 : decode cX2_become 42 = .ok (.putfield 21, 3) := by decide +kernel
theorem dX2_become_45 : decode cX2_become 45 = .ok (.aload_n 0, 1) := by decide +kernel
theorem dX2_become_46 : decode cX2_become 46 = .ok (.aload_n 1, 1) := by decide +kernel
theorem dX2_become_47 : decode cX2_become 47 = .ok (.getfield 24, 3) := by decide +kernel
theorem dX2_become_50 : decode cX2_become 50 = .ok (.putfield 24, 3) := by decide +kernel
theorem dX2_become_53 : decode cX2_become 53 = .ok (.aload_n 0, 1) := by decide +kernel
theorem dX2_become_54 : decode cX2_become 54 = .ok (.aload_n 1, 1) := by decide +kernel
theorem dX2_become_55 : decode cX2_become 55 = .ok (.getfield 27, 3) := by decide +kernel
theorem dX2_become_58 : decode cX2_become 58 = .ok (.putfield 27, 3) := by decide +kernel
theorem dX2_become_61 : decode cX2_become 61 = .ok (.aload_n 0, 1) := by decide +kernel
theorem dX2_become_62 : decode cX2_become 62 = .ok (.aload_n 1, 1) := by decide +kernel
theorem dX2_become_63 : decode cX2_become 63 = .ok (.getfield 30, 3) := by decide +kernel
theorem dX2_become_66 : decode cX2_become 66 = .ok (.putfield 30, 3) := by decide +kernel
theorem dX2_become_69 : decode cX2_become 69 = .ok (.aload_n 1, 1) := by decide +kernel
theorem dX2_become_70 : decode cX2_become 70 = .ok (.getfield 33, 3) := by decide +kernel
theorem dX2_become_73 : decode cX2_become 73 = .ok (.iconst 0, 1) := by decide +kernel
theorem dX2_become_74 : decode cX2_become 74 = .ok (.aload_n 0, 1) := by decide +kernel
theorem dX2_become_75 : decode cX2_become 75 = .ok (.getfield 33, 3) := by decide +kernel
theorem dX2_become_78 : decode cX2_become 78 = .ok (.iconst 0, 1) := by decide +kernel
theorem dX2_become_79 : decode cX2_become 79 = .ok (.bipush 10, 2) := by decide +kernel
theorem dX2_become_81 : decode cX2_become 81 = .ok (.invokestatic 48, 3) := by decide +kernel
theorem dX2_become_84 : decode cX2_become 84 = .ok (.return_, 1) := by decide +kernel
theorem dX2_has_0 : decode cX2_has 0 = .ok (.iload_n 1, 1) := by decide +kernel
theorem dX2_has_1 : decode cX2_has 1 = .ok (.ifCond .lt 15, 3) := by decide +kernel
theorem dX2_has_4 : decode cX2_has 4 = .ok (.iload_n 1, 1) := by decide +kernel
theorem dX2_has_5 : decode cX2_has 5 = .ok (.aload_n 0, 1) := by decide +kernel
theorem dX2_has_6 : decode cX2_has 6 = .ok (.getfield 17, 3) := by decide +kernel
theorem dX2_has_9 : decode cX2_has 9 = .ok (.if_icmp .ge 7, 3) := by decide +kernel
theorem dX2_has_12 : decode cX2_has 12 = .ok (.iconst 1, 1) := by decide +kernel
theorem dX2_has_13 : decode cX2_has 13 = .ok (.goto 4, 3) := by decide +kernel
theorem dX2_has_16 : decode cX2_has 16 = .ok (.iconst 0, 1) := by decide +kernel
theorem dX2_has_17 : decode cX2_has 17 = .ok (.ireturn, 1) := by decide +kernel
theorem dX2_hasAll_0 : decode cX2_hasAll 0 = .ok (.iload_n 1, 1) := by decide +kernel
theorem dX2_hasAll_1 : decode cX2_hasAll 1 = .ok (.ifCond .lt 17, 3) := by decide +kernel
theorem dX2_hasAll_4 : decode cX2_hasAll 4 = .ok (.iload_n 1, 1) := by decide +kernel
theorem dX2_hasAll_5 : decode cX2_hasAll 5 = .ok (.iconst 1, 1) := by decide +kernel
theorem dX2_hasAll_6 : decode cX2_hasAll 6 = .ok (.aload_n 0, 1) := by decide +kernel
theorem dX2_hasAll_7 : decode cX2_hasAll 7 = .ok (.getfield 17, 3) := by decide +kernel
theorem dX2_hasAll_10 : decode cX2_hasAll 10 = .ok (.ishl, 1) := by decide +kernel
theorem dX2_hasAll_11 : decode cX2_hasAll 11 = .ok (.if_icmp .ge 7, 3) := by decide +kernel
theorem dX2_hasAll_14 : decode cX2_hasAll 14 = .ok (.iconst 1, 1) := by decide +kernel
theorem dX2_hasAll_15 : decode cX2_hasAll 15 = .ok (.goto 4, 3) := by decide +kernel
theorem dX2_hasAll_18 : decode cX2_hasAll 18 = .ok (.iconst 0, 1) := by decide +kernel
theorem dX2_hasAll_19 : decode cX2_hasAll 19 = .ok (.ireturn, 1) := by decide +kernel
theorem dX2_receive_0 : decode cX2_receive 0 = .ok (.aload_n 0, 1) := by decide +kernel
theorem dX2_receive_1 : decode cX2_receive 1 = .ok (.getfield 11, 3) := by decide +kernel
theorem dX2_receive_4 : decode cX2_receive 4 = .ok (.aload_n 0, 1) := by decide +kernel
theorem dX2_receive_5 : decode cX2_receive 5 = .ok (.getfield 17, 3) := by decide +kernel
theorem dX2_receive_8 : decode cX2_receive 8 = .ok (.aaload, 1) := by decide +kernel
theorem dX2_receive_9 : decode cX2_receive 9 = .ok (.astore 6, 2) := by decide +kernel
theorem dX2_receive_11 : decode cX2_receive 11 = .ok (.aload 6, 2) := by decide +kernel
theorem dX2_receive_13 : decode cX2_receive 13 = .ok (.iload_n 1, 1) := by decide +kernel
theorem dX2_receive_14 : decode cX2_receive 14 = .ok (.putfield 54, 3) := by decide +kernel
theorem dX2_receive_17 : decode cX2_receive 17 = .ok (.aload 6, 2) := by decide +kernel
theorem dX2_receive_19 : decode cX2_receive 19 = .ok (.iload_n 2, 1) := by decide +kernel
theorem dX2_receive_20 : decode cX2_receive 20 = .ok (.putfield 57, 3) := by decide +kernel
theorem dX2_receive_23 : decode cX2_receive 23 = .ok (.aload 6, 2) := by decide +kernel
theorem dX2_receive_25 : decode cX2_receive 25 = .ok (.iload_n 3, 1) := by decide +kernel
theorem dX2_receive_26 : decode cX2_receive 26 = .ok (.putfield 60, 3) := by decide +kernel
theorem dX2_receive_29 : decode cX2_receive 29 = .ok (.aload 6, 2) := by decide +kernel
theorem dX2_receive_31 : decode cX2_receive 31 = .ok (.iload 4, 2) := by decide +kernel
theorem dX2_receive_33 : decode cX2_receive 33 = .ok (.putfield 63, 3) := by decide +kernel
theorem dX2_receive_36 : decode cX2_receive 36 = .ok (.aload 6, 2) := by decide +kernel
theorem dX2_receive_38 : decode cX2_receive 38 = .ok (.iload 5, 2) := by decide +kernel
theorem dX2_receive_40 : decode cX2_receive 40 = .ok (.putfield 66, 3) := by decide +kernel
theorem dX2_receive_43 : decode cX2_receive 43 = .ok (.aload 6, 2) := by decide +kernel
theorem dX2_receive_45 : decode cX2_receive 45 = .ok (.iconst 0, 1) := by decide +kernel
theorem dX2_receive_46 : decode cX2_receive 46 = .ok (.putfield 69, 3) := by decide +kernel
theorem dX2_receive_49 : decode cX2_receive 49 = .ok (.aload_n 0, 1) := by decide +kernel
theorem dX2_receive_50 : decode cX2_receive 50 = .ok (.dup, 1) := by decide +kernel
theorem dX2_receive_51 : decode cX2_receive 51 = .ok (.getfield 17, 3) := by decide +kernel
theorem dX2_receive_54 : decode cX2_receive 54 = .ok (.iconst 1, 1) := by decide +kernel
theorem dX2_receive_55 : decode cX2_receive 55 = .ok (.iadd, 1) := by decide +kernel
theorem dX2_receive_56 : decode cX2_receive 56 = .ok (.putfield 17, 3) := by decide +kernel
theorem dX2_receive_59 : decode cX2_receive 59 = .ok (.aload_n 0, 1) := by decide +kernel
theorem dX2_receive_60 : decode cX2_receive 60 = .ok (.getfield 17, 3) := by decide +kernel
theorem dX2_receive_63 : decode cX2_receive 63 = .ok (.iconst 1, 1) := by decide +kernel
theorem dX2_receive_64 : decode cX2_receive 64 = .ok (.isub, 1) := by decide +kernel
theorem dX2_receive_65 : decode cX2_receive 65 = .ok (.ireturn, 1) := by decide +kernel
theorem dX2_counts_0 : decode cX2_counts 0 = .ok (.aload_n 1, 1) := by decide +kernel
theorem dX2_counts_1 : decode cX2_counts 1 = .ok (.getfield 69, 3) := by decide +kernel
theorem dX2_counts_4 : decode cX2_counts 4 = .ok (.ifCond .ne 19, 3) := by decide +kernel
theorem dX2_counts_7 : decode cX2_counts 7 = .ok (.aload_n 1, 1) := by decide +kernel
theorem dX2_counts_8 : decode cX2_counts 8 = .ok (.aload_n 0, 1) := by decide +kernel
theorem dX2_counts_9 : decode cX2_counts 9 = .ok (.getfield 24, 3) := by decide +kernel
theorem dX2_counts_12 : decode cX2_counts 12 = .ok (.invokevirtual 72, 3) := by decide +kernel
theorem dX2_counts_15 : decode cX2_counts 15 = .ok (.iload_n 2, 1) := by decide +kernel
theorem dX2_counts_16 : decode cX2_counts 16 = .ok (.if_icmp .gt 7, 3) := by decide +kernel
theorem dX2_counts_19 : decode cX2_counts 19 = .ok (.iconst 1, 1) := by decide +kernel
theorem dX2_counts_20 : decode cX2_counts 20 = .ok (.goto 4, 3) := by decide +kernel
theorem dX2_counts_23 : decode cX2_counts 23 = .ok (.iconst 0, 1) := by decide +kernel
theorem dX2_counts_24 : decode cX2_counts 24 = .ok (.ireturn, 1) := by decide +kernel
theorem dX2_countingOn_0 : decode cX2_countingOn 0 = .ok (.iconst 0, 1) := by decide +kernel
theorem dX2_countingOn_1 : decode cX2_countingOn 1 = .ok (.istore_n 2, 1) := by decide +kernel
theorem dX2_countingOn_2 : decode cX2_countingOn 2 = .ok (.iconst 0, 1) := by decide +kernel
theorem dX2_countingOn_3 : decode cX2_countingOn 3 = .ok (.istore_n 3, 1) := by decide +kernel
theorem dX2_countingOn_4 : decode cX2_countingOn 4 = .ok (.iload_n 3, 1) := by decide +kernel
theorem dX2_countingOn_5 : decode cX2_countingOn 5 = .ok (.aload_n 0, 1) := by decide +kernel
theorem dX2_countingOn_6 : decode cX2_countingOn 6 = .ok (.getfield 17, 3) := by decide +kernel
theorem dX2_countingOn_9 : decode cX2_countingOn 9 = .ok (.if_icmp .ge 29, 3) := by decide +kernel
theorem dX2_countingOn_12 : decode cX2_countingOn 12 = .ok (.aload_n 0, 1) := by decide +kernel
theorem dX2_countingOn_13 : decode cX2_countingOn 13 = .ok (.aload_n 0, 1) := by decide +kernel
theorem dX2_countingOn_14 : decode cX2_countingOn 14 = .ok (.getfield 11, 3) := by decide +kernel
theorem dX2_countingOn_17 : decode cX2_countingOn 17 = .ok (.iload_n 3, 1) := by decide +kernel
theorem dX2_countingOn_18 : decode cX2_countingOn 18 = .ok (.aaload, 1) := by decide +kernel
theorem dX2_countingOn_19 : decode cX2_countingOn 19 = .ok (.iload_n 1, 1) := by decide +kernel
theorem dX2_countingOn_20 : decode cX2_countingOn 20 = .ok (.invokevirtual 76, 3) := by decide +kernel
theorem dX2_countingOn_23 : decode cX2_countingOn 23 = .ok (.ifCond .eq 9, 3) := by decide +kernel
theorem dX2_countingOn_26 : decode cX2_countingOn 26 = .ok (.iload_n 2, 1) := by decide +kernel
theorem dX2_countingOn_27 : decode cX2_countingOn 27 = .ok (.iconst 1, 1) := by decide +kernel
theorem dX2_countingOn_28 : decode cX2_countingOn 28 = .ok (.iload_n 3, 1) := by decide +kernel
theorem dX2_countingOn_29 : decode cX2_countingOn 29 = .ok (.ishl, 1) := by decide +kernel
theorem dX2_countingOn_30 : decode cX2_countingOn 30 = .ok (.ior, 1) := by decide +kernel
theorem dX2_countingOn_31 : decode cX2_countingOn 31 = .ok (.istore_n 2, 1) := by decide +kernel
theorem dX2_countingOn_32 : decode cX2_countingOn 32 = .ok (.iinc 3 1, 3) := by decide +kernel
theorem dX2_countingOn_35 : decode cX2_countingOn 35 = .ok (.goto (-31), 3) := by decide +kernel
theorem dX2_countingOn_38 : decode cX2_countingOn 38 = .ok (.iload_n 2, 1) := by decide +kernel
theorem dX2_countingOn_39 : decode cX2_countingOn 39 = .ok (.ireturn, 1) := by decide +kernel
theorem dX2_toCome_0 : decode cX2_toCome 0 = .ok (.iconst 0, 1) := by decide +kernel
theorem dX2_toCome_1 : decode cX2_toCome 1 = .ok (.istore_n 1, 1) := by decide +kernel
theorem dX2_toCome_2 : decode cX2_toCome 2 = .ok (.iconst 0, 1) := by decide +kernel
theorem dX2_toCome_3 : decode cX2_toCome 3 = .ok (.istore_n 2, 1) := by decide +kernel
theorem dX2_toCome_4 : decode cX2_toCome 4 = .ok (.iload_n 2, 1) := by decide +kernel
theorem dX2_toCome_5 : decode cX2_toCome 5 = .ok (.aload_n 0, 1) := by decide +kernel
theorem dX2_toCome_6 : decode cX2_toCome 6 = .ok (.getfield 17, 3) := by decide +kernel
theorem dX2_toCome_9 : decode cX2_toCome 9 = .ok (.if_icmp .ge 35, 3) := by decide +kernel
theorem dX2_toCome_12 : decode cX2_toCome 12 = .ok (.aload_n 0, 1) := by decide +kernel
theorem dX2_toCome_13 : decode cX2_toCome 13 = .ok (.getfield 11, 3) := by decide +kernel
theorem dX2_toCome_16 : decode cX2_toCome 16 = .ok (.iload_n 2, 1) := by decide +kernel
theorem dX2_toCome_17 : decode cX2_toCome 17 = .ok (.aaload, 1) := by decide +kernel
theorem dX2_toCome_18 : decode cX2_toCome 18 = .ok (.aload_n 0, 1) := by decide +kernel
theorem dX2_toCome_19 : decode cX2_toCome 19 = .ok (.getfield 24, 3) := by decide +kernel
theorem dX2_toCome_22 : decode cX2_toCome 22 = .ok (.invokevirtual 72, 3) := by decide +kernel
theorem dX2_toCome_25 : decode cX2_toCome 25 = .ok (.aload_n 0, 1) := by decide +kernel
theorem dX2_toCome_26 : decode cX2_toCome 26 = .ok (.getfield 27, 3) := by decide +kernel
theorem dX2_toCome_29 : decode cX2_toCome 29 = .ok (.if_icmp .le 9, 3) := by decide +kernel
theorem dX2_toCome_32 : decode cX2_toCome 32 = .ok (.iload_n 1, 1) := by decide +kernel
theorem dX2_toCome_33 : decode cX2_toCome 33 = .ok (.iconst 1, 1) := by decide +kernel
theorem dX2_toCome_34 : decode cX2_toCome 34 = .ok (.iload_n 2, 1) := by decide +kernel
theorem dX2_toCome_35 : decode cX2_toCome 35 = .ok (.ishl, 1) := by decide +kernel
theorem dX2_toCome_36 : decode cX2_toCome 36 = .ok (.ior, 1) := by decide +kernel
theorem dX2_toCome_37 : decode cX2_toCome 37 = .ok (.istore_n 1, 1) := by decide +kernel
theorem dX2_toCome_38 : decode cX2_toCome 38 = .ok (.iinc 2 1, 3) := by decide +kernel
theorem dX2_toCome_41 : decode cX2_toCome 41 = .ok (.goto (-37), 3) := by decide +kernel
theorem dX2_toCome_44 : decode cX2_toCome 44 = .ok (.iload_n 1, 1) := by decide +kernel
theorem dX2_toCome_45 : decode cX2_toCome 45 = .ok (.ireturn, 1) := by decide +kernel
theorem dX2_struckOnes_0 : decode cX2_struckOnes 0 = .ok (.iconst 0, 1) := by decide +kernel
theorem dX2_struckOnes_1 : decode cX2_struckOnes 1 = .ok (.istore_n 1, 1) := by decide +kernel
theorem dX2_struckOnes_2 : decode cX2_struckOnes 2 = .ok (.iconst 0, 1) := by decide +kernel
theorem dX2_struckOnes_3 : decode cX2_struckOnes 3 = .ok (.istore_n 2, 1) := by decide +kernel
theorem dX2_struckOnes_4 : decode cX2_struckOnes 4 = .ok (.iload_n 2, 1) := by decide +kernel
theorem dX2_struckOnes_5 : decode cX2_struckOnes 5 = .ok (.aload_n 0, 1) := by decide +kernel
theorem dX2_struckOnes_6 : decode cX2_struckOnes 6 = .ok (.getfield 17, 3) := by decide +kernel
theorem dX2_struckOnes_9 : decode cX2_struckOnes 9 = .ok (.if_icmp .ge 23, 3) := by decide +kernel
theorem dX2_struckOnes_12 : decode cX2_struckOnes 12 = .ok (.iload_n 1, 1) := by decide +kernel
theorem dX2_struckOnes_13 : decode cX2_struckOnes 13 = .ok (.aload_n 0, 1) := by decide +kernel
theorem dX2_struckOnes_14 : decode cX2_struckOnes 14 = .ok (.getfield 11, 3) := by decide +kernel
theorem dX2_struckOnes_17 : decode cX2_struckOnes 17 = .ok (.iload_n 2, 1) := by decide +kernel
theorem dX2_struckOnes_18 : decode cX2_struckOnes 18 = .ok (.aaload, 1) := by decide +kernel
theorem dX2_struckOnes_19 : decode cX2_struckOnes 19 = .ok (.getfield 69, 3) := by decide +kernel
theorem dX2_struckOnes_22 : decode cX2_struckOnes 22 = .ok (.iload_n 2, 1) := by decide +kernel
theorem dX2_struckOnes_23 : decode cX2_struckOnes 23 = .ok (.ishl, 1) := by decide +kernel
theorem dX2_struckOnes_24 : decode cX2_struckOnes 24 = .ok (.ior, 1) := by decide +kernel
theorem dX2_struckOnes_25 : decode cX2_struckOnes 25 = .ok (.istore_n 1, 1) := by decide +kernel
theorem dX2_struckOnes_26 : decode cX2_struckOnes 26 = .ok (.iinc 2 1, 3) := by decide +kernel
theorem dX2_struckOnes_29 : decode cX2_struckOnes 29 = .ok (.goto (-25), 3) := by decide +kernel
theorem dX2_struckOnes_32 : decode cX2_struckOnes 32 = .ok (.iload_n 1, 1) := by decide +kernel
theorem dX2_struckOnes_33 : decode cX2_struckOnes 33 = .ok (.ireturn, 1) := by decide +kernel
theorem dX2_allDays_0 : decode cX2_allDays 0 = .ok (.iconst 0, 1) := by decide +kernel
theorem dX2_allDays_1 : decode cX2_allDays 1 = .ok (.istore_n 1, 1) := by decide +kernel
theorem dX2_allDays_2 : decode cX2_allDays 2 = .ok (.iconst 0, 1) := by decide +kernel
theorem dX2_allDays_3 : decode cX2_allDays 3 = .ok (.istore_n 2, 1) := by decide +kernel
theorem dX2_allDays_4 : decode cX2_allDays 4 = .ok (.iload_n 2, 1) := by decide +kernel
theorem dX2_allDays_5 : decode cX2_allDays 5 = .ok (.aload_n 0, 1) := by decide +kernel
theorem dX2_allDays_6 : decode cX2_allDays 6 = .ok (.getfield 17, 3) := by decide +kernel
theorem dX2_allDays_9 : decode cX2_allDays 9 = .ok (.if_icmp .ge 21, 3) := by decide +kernel
theorem dX2_allDays_12 : decode cX2_allDays 12 = .ok (.iload_n 1, 1) := by decide +kernel
theorem dX2_allDays_13 : decode cX2_allDays 13 = .ok (.aload_n 0, 1) := by decide +kernel
theorem dX2_allDays_14 : decode cX2_allDays 14 = .ok (.getfield 11, 3) := by decide +kernel
theorem dX2_allDays_17 : decode cX2_allDays 17 = .ok (.iload_n 2, 1) := by decide +kernel
theorem dX2_allDays_18 : decode cX2_allDays 18 = .ok (.aaload, 1) := by decide +kernel
theorem dX2_allDays_19 : decode cX2_allDays 19 = .ok (.getfield 63, 3) := by decide +kernel
theorem dX2_allDays_22 : decode cX2_allDays 22 = .ok (.iadd, 1) := by decide +kernel
theorem dX2_allDays_23 : decode cX2_allDays 23 = .ok (.istore_n 1, 1) := by decide +kernel
theorem dX2_allDays_24 : decode cX2_allDays 24 = .ok (.iinc 2 1, 3) := by decide +kernel
theorem dX2_allDays_27 : decode cX2_allDays 27 = .ok (.goto (-23), 3) := by decide +kernel
theorem dX2_allDays_30 : decode cX2_allDays 30 = .ok (.iload_n 1, 1) := by decide +kernel
theorem dX2_allDays_31 : decode cX2_allDays 31 = .ok (.ireturn, 1) := by decide +kernel
theorem dX2_heldSpots_0 : decode cX2_heldSpots 0 = .ok (.iconst 0, 1) := by decide +kernel
theorem dX2_heldSpots_1 : decode cX2_heldSpots 1 = .ok (.istore_n 1, 1) := by decide +kernel
theorem dX2_heldSpots_2 : decode cX2_heldSpots 2 = .ok (.iconst 0, 1) := by decide +kernel
theorem dX2_heldSpots_3 : decode cX2_heldSpots 3 = .ok (.istore_n 2, 1) := by decide +kernel
theorem dX2_heldSpots_4 : decode cX2_heldSpots 4 = .ok (.iload_n 2, 1) := by decide +kernel
theorem dX2_heldSpots_5 : decode cX2_heldSpots 5 = .ok (.bipush 10, 2) := by decide +kernel
theorem dX2_heldSpots_7 : decode cX2_heldSpots 7 = .ok (.if_icmp .ge 22, 3) := by decide +kernel
theorem dX2_heldSpots_10 : decode cX2_heldSpots 10 = .ok (.aload_n 0, 1) := by decide +kernel
theorem dX2_heldSpots_11 : decode cX2_heldSpots 11 = .ok (.getfield 33, 3) := by decide +kernel
theorem dX2_heldSpots_14 : decode cX2_heldSpots 14 = .ok (.iload_n 2, 1) := by decide +kernel
theorem dX2_heldSpots_15 : decode cX2_heldSpots 15 = .ok (.iaload, 1) := by decide +kernel
theorem dX2_heldSpots_16 : decode cX2_heldSpots 16 = .ok (.iconst (-1), 1) := by decide +kernel
theorem dX2_heldSpots_17 : decode cX2_heldSpots 17 = .ok (.if_icmp .eq 6, 3) := by decide +kernel
theorem dX2_heldSpots_20 : decode cX2_heldSpots 20 = .ok (.iinc 1 1, 3) := by decide +kernel
theorem dX2_heldSpots_23 : decode cX2_heldSpots 23 = .ok (.iinc 2 1, 3) := by decide +kernel
theorem dX2_heldSpots_26 : decode cX2_heldSpots 26 = .ok (.goto (-22), 3) := by decide +kernel
theorem dX2_heldSpots_29 : decode cX2_heldSpots 29 = .ok (.iload_n 1, 1) := by decide +kernel
theorem dX2_heldSpots_30 : decode cX2_heldSpots 30 = .ok (.ireturn, 1) := by decide +kernel
theorem dX2_draw_0 : decode cX2_draw 0 = .ok (.aload_n 0, 1) := by decide +kernel
theorem dX2_draw_1 : decode cX2_draw 1 = .ok (.aload_n 0, 1) := by decide +kernel
theorem dX2_draw_2 : decode cX2_draw 2 = .ok (.getfield 30, 3) := by decide +kernel
theorem dX2_draw_5 : decode cX2_draw 5 = .ok (.ldc 80, 2) := by decide +kernel
theorem dX2_draw_7 : decode cX2_draw 7 = .ok (.imul, 1) := by decide +kernel
theorem dX2_draw_8 : decode cX2_draw 8 = .ok (.sipush 12345, 3) := by decide +kernel
theorem dX2_draw_11 : decode cX2_draw 11 = .ok (.iadd, 1) := by decide +kernel
theorem dX2_draw_12 : decode cX2_draw 12 = .ok (.putfield 30, 3) := by decide +kernel
theorem dX2_draw_15 : decode cX2_draw 15 = .ok (.aload_n 0, 1) := by decide +kernel
theorem dX2_draw_16 : decode cX2_draw 16 = .ok (.getfield 30, 3) := by decide +kernel
theorem dX2_draw_19 : decode cX2_draw 19 = .ok (.bipush 8, 2) := by decide +kernel
theorem dX2_draw_21 : decode cX2_draw 21 = .ok (.iushr, 1) := by decide +kernel
theorem dX2_draw_22 : decode cX2_draw 22 = .ok (.ireturn, 1) := by decide +kernel
theorem dX3_init_0 : decode cX3_init 0 = .ok (.aload_n 0, 1) := by decide +kernel
theorem dX3_init_1 : decode cX3_init 1 = .ok (.invokespecial 3, 3) := by decide +kernel
theorem dX3_init_4 : decode cX3_init 4 = .ok (.aload_n 0, 1) := by decide +kernel
theorem dX3_init_5 : decode cX3_init 5 = .ok (.iconst 0, 1) := by decide +kernel
theorem dX3_init_6 : decode cX3_init 6 = .ok (.putfield 9, 3) := by decide +kernel
theorem dX3_init_9 : decode cX3_init 9 = .ok (.aload_n 0, 1) := by decide +kernel
theorem dX3_init_10 : decode cX3_init 10 = .ok (.iconst 0, 1) := by decide +kernel
theorem dX3_init_11 : decode cX3_init 11 = .ok (.putfield 15, 3) := by decide +kernel
theorem dX3_init_14 : decode cX3_init 14 = .ok (.aload_n 0, 1) := by decide +kernel
theorem dX3_init_15 : decode cX3_init 15 = .ok (.bipush 40, 2) := by decide +kernel
theorem dX3_init_17 : decode cX3_init 17 = .ok (.newarray .int, 2) := by decide +kernel
theorem dX3_init_19 : decode cX3_init 19 = .ok (.putfield 18, 3) := by decide +kernel
theorem dX3_init_22 : decode cX3_init 22 = .ok (.return_, 1) := by decide +kernel
theorem dX3_isMissing_0 : decode cX3_isMissing 0 = .ok (.aload_n 0, 1) := by decide +kernel
theorem dX3_isMissing_1 : decode cX3_isMissing 1 = .ok (.getfield 9, 3) := by decide +kernel
theorem dX3_isMissing_4 : decode cX3_isMissing 4 = .ok (.ifCond .ne 7, 3) := by decide +kernel
theorem dX3_isMissing_7 : decode cX3_isMissing 7 = .ok (.iconst 1, 1) := by decide +kernel
theorem dX3_isMissing_8 : decode cX3_isMissing 8 = .ok (.goto 4, 3) := by decide +kernel
theorem dX3_isMissing_11 : decode cX3_isMissing 11 = .ok (.iconst 0, 1) := by decide +kernel
theorem dX3_isMissing_12 : decode cX3_isMissing 12 = .ok (.ireturn, 1) := by decide +kernel
theorem dX3_renew_0 : decode cX3_renew 0 = .ok (.aload_n 0, 1) := by decide +kernel
theorem dX3_renew_1 : decode cX3_renew 1 = .ok (.iload_n 1, 1) := by decide +kernel
theorem dX3_renew_2 : decode cX3_renew 2 = .ok (.putfield 9, 3) := by decide +kernel
theorem dX3_renew_5 : decode cX3_renew 5 = .ok (.aload_n 0, 1) := by decide +kernel
theorem dX3_renew_6 : decode cX3_renew 6 = .ok (.iload_n 2, 1) := by decide +kernel
theorem dX3_renew_7 : decode cX3_renew 7 = .ok (.putfield 15, 3) := by decide +kernel
theorem dX3_renew_10 : decode cX3_renew 10 = .ok (.aload_n 0, 1) := by decide +kernel
theorem dX3_renew_11 : decode cX3_renew 11 = .ok (.getfield 18, 3) := by decide +kernel
theorem dX3_renew_14 : decode cX3_renew 14 = .ok (.iconst 0, 1) := by decide +kernel
theorem dX3_renew_15 : decode cX3_renew 15 = .ok (.invokestatic 22, 3) := by decide +kernel
theorem dX3_renew_18 : decode cX3_renew 18 = .ok (.return_, 1) := by decide +kernel
theorem dX3_put_0 : decode cX3_put 0 = .ok (.aload_n 0, 1) := by decide +kernel
theorem dX3_put_1 : decode cX3_put 1 = .ok (.getfield 9, 3) := by decide +kernel
theorem dX3_put_4 : decode cX3_put 4 = .ok (.bipush 8, 2) := by decide +kernel
theorem dX3_put_6 : decode cX3_put 6 = .ok (.if_icmp .ne 14, 3) := by decide +kernel
theorem dX3_put_9 : decode cX3_put 9 = .ok (.aload_n 0, 1) := by decide +kernel
theorem dX3_put_10 : decode cX3_put 10 = .ok (.getfield 18, 3) := by decide +kernel
theorem dX3_put_13 : decode cX3_put 13 = .ok (.iload_n 1, 1) := by decide +kernel
theorem dX3_put_14 : decode cX3_put 14 = .ok (.iload_n 2, 1) := by decide +kernel
theorem dX3_put_15 : decode cX3_put 15 = .ok (.i2b, 1) := by decide +kernel
theorem dX3_put_16 : decode cX3_put 16 = .ok (.iastore, 1) := by decide +kernel
theorem dX3_put_17 : decode cX3_put 17 = .ok (.goto 30, 3) := by decide +kernel
theorem dX3_put_20 : decode cX3_put 20 = .ok (.aload_n 0, 1) := by decide +kernel
theorem dX3_put_21 : decode cX3_put 21 = .ok (.getfield 9, 3) := by decide +kernel
theorem dX3_put_24 : decode cX3_put 24 = .ok (.bipush 16, 2) := by decide +kernel
theorem dX3_put_26 : decode cX3_put 26 = .ok (.if_icmp .ne 14, 3) := by decide +kernel
theorem dX3_put_29 : decode cX3_put 29 = .ok (.aload_n 0, 1) := by decide +kernel
theorem dX3_put_30 : decode cX3_put 30 = .ok (.getfield 18, 3) := by decide +kernel
theorem dX3_put_33 : decode cX3_put 33 = .ok (.iload_n 1, 1) := by decide +kernel
theorem dX3_put_34 : decode cX3_put 34 = .ok (.iload_n 2, 1) := by decide +kernel
theorem dX3_put_35 : decode cX3_put 35 = .ok (.i2s, 1) := by decide +kernel
theorem dX3_put_36 : decode cX3_put 36 = .ok (.iastore, 1) := by decide +kernel
theorem dX3_put_37 : decode cX3_put 37 = .ok (.goto 10, 3) := by decide +kernel
theorem dX3_put_40 : decode cX3_put 40 = .ok (.aload_n 0, 1) := by decide +kernel
theorem dX3_put_41 : decode cX3_put 41 = .ok (.getfield 18, 3) := by decide +kernel
theorem dX3_put_44 : decode cX3_put 44 = .ok (.iload_n 1, 1) := by decide +kernel
theorem dX3_put_45 : decode cX3_put 45 = .ok (.iload_n 2, 1) := by decide +kernel
theorem dX3_put_46 : decode cX3_put 46 = .ok (.iastore, 1) := by decide +kernel
theorem dX3_put_47 : decode cX3_put 47 = .ok (.return_, 1) := by decide +kernel
theorem dX3_hasRun_0 : decode cX3_hasRun 0 = .ok (.iload_n 1, 1) := by decide +kernel
theorem dX3_hasRun_1 : decode cX3_hasRun 1 = .ok (.ifCond .lt 29, 3) := by decide +kernel
theorem dX3_hasRun_4 : decode cX3_hasRun 4 = .ok (.iload_n 2, 1) := by decide +kernel
theorem dX3_hasRun_5 : decode cX3_hasRun 5 = .ok (.ifCond .lt 25, 3) := by decide +kernel
theorem dX3_hasRun_8 : decode cX3_hasRun 8 = .ok (.iload_n 2, 1) := by decide +kernel
theorem dX3_hasRun_9 : decode cX3_hasRun 9 = .ok (.aload_n 0, 1) := by decide +kernel
theorem dX3_hasRun_10 : decode cX3_hasRun 10 = .ok (.getfield 15, 3) := by decide +kernel
theorem dX3_hasRun_13 : decode cX3_hasRun 13 = .ok (.if_icmp .gt 17, 3) := by decide +kernel
theorem dX3_hasRun_16 : decode cX3_hasRun 16 = .ok (.iload_n 1, 1) := by decide +kernel
theorem dX3_hasRun_17 : decode cX3_hasRun 17 = .ok (.aload_n 0, 1) := by decide +kernel
theorem dX3_hasRun_18 : decode cX3_hasRun 18 = .ok (.getfield 15, 3) := by decide +kernel
theorem dX3_hasRun_21 : decode cX3_hasRun 21 = .ok (.iload_n 2, 1) := by decide +kernel
theorem dX3_hasRun_22 : decode cX3_hasRun 22 = .ok (.isub, 1) := by decide +kernel
theorem dX3_hasRun_23 : decode cX3_hasRun 23 = .ok (.if_icmp .gt 7, 3) := by decide +kernel
theorem dX3_hasRun_26 : decode cX3_hasRun 26 = .ok (.iconst 1, 1) := by decide +kernel
theorem dX3_hasRun_27 : decode cX3_hasRun 27 = .ok (.goto 4, 3) := by decide +kernel
theorem dX3_hasRun_30 : decode cX3_hasRun 30 = .ok (.iconst 0, 1) := by decide +kernel
theorem dX3_hasRun_31 : decode cX3_hasRun 31 = .ok (.ireturn, 1) := by decide +kernel
theorem dX3_arePlaces_0 : decode cX3_arePlaces 0 = .ok (.aload_n 0, 1) := by decide +kernel
theorem dX3_arePlaces_1 : decode cX3_arePlaces 1 = .ok (.getfield 15, 3) := by decide +kernel
theorem dX3_arePlaces_4 : decode cX3_arePlaces 4 = .ok (.bipush 8, 2) := by decide +kernel
theorem dX3_arePlaces_6 : decode cX3_arePlaces 6 = .ok (.if_icmp .le 5, 3) := by decide +kernel
theorem dX3_arePlaces_9 : decode cX3_arePlaces 9 = .ok (.iconst 0, 1) := by decide +kernel
theorem dX3_arePlaces_10 : decode cX3_arePlaces 10 = .ok (.ireturn, 1) := by decide +kernel
theorem dX3_arePlaces_11 : decode cX3_arePlaces 11 = .ok (.iconst 0, 1) := by decide +kernel
theorem dX3_arePlaces_12 : decode cX3_arePlaces 12 = .ok (.istore_n 1, 1) := by decide +kernel
theorem dX3_arePlaces_13 : decode cX3_arePlaces 13 = .ok (.iload_n 1, 1) := by decide +kernel
theorem dX3_arePlaces_14 : decode cX3_arePlaces 14 = .ok (.aload_n 0, 1) := by decide +kernel
theorem dX3_arePlaces_15 : decode cX3_arePlaces 15 = .ok (.getfield 15, 3) := by decide +kernel
theorem dX3_arePlaces_18 : decode cX3_arePlaces 18 = .ok (.if_icmp .ge 49, 3) := by decide +kernel
theorem dX3_arePlaces_21 : decode cX3_arePlaces 21 = .ok (.iconst 0, 1) := by decide +kernel
theorem dX3_arePlaces_22 : decode cX3_arePlaces 22 = .ok (.istore_n 2, 1) := by decide +kernel
theorem dX3_arePlaces_23 : decode cX3_arePlaces 23 = .ok (.iload_n 2, 1) := by decide +kernel
theorem dX3_arePlaces_24 : decode cX3_arePlaces 24 = .ok (.iload_n 1, 1) := by decide +kernel
theorem dX3_arePlaces_25 : decode cX3_arePlaces 25 = .ok (.if_icmp .ge 36, 3) := by decide +kernel
theorem dX3_arePlaces_28 : decode cX3_arePlaces 28 = .ok (.aload_n 0, 1) := by decide +kernel
theorem dX3_arePlaces_29 : decode cX3_arePlaces 29 = .ok (.getfield 18, 3) := by decide +kernel
theorem dX3_arePlaces_32 : decode cX3_arePlaces 32 = .ok (.iload_n 1, 1) := by decide +kernel
theorem dX3_arePlaces_33 : decode cX3_arePlaces 33 = .ok (.iaload, 1) := by decide +kernel
theorem dX3_arePlaces_34 : decode cX3_arePlaces 34 = .ok (.i2l, 1) := by decide +kernel
theorem dX3_arePlaces_35 : decode cX3_arePlaces 35 = .ok (.aload_n 0, 1) := by decide +kernel
theorem dX3_arePlaces_36 : decode cX3_arePlaces 36 = .ok (.getfield 18, 3) := by decide +kernel
theorem dX3_arePlaces_39 : decode cX3_arePlaces 39 = .ok (.iload_n 2, 1) := by decide +kernel
theorem dX3_arePlaces_40 : decode cX3_arePlaces 40 = .ok (.iaload, 1) := by decide +kernel
theorem dX3_arePlaces_41 : decode cX3_arePlaces 41 = .ok (.i2l, 1) := by decide +kernel
theorem dX3_arePlaces_42 : decode cX3_arePlaces 42 = .ok (.lsub, 1) := by decide +kernel
theorem dX3_arePlaces_43 : decode cX3_arePlaces 43 = .ok (.invokestatic 28, 3) := by decide +kernel
theorem dX3_arePlaces_46 : decode cX3_arePlaces 46 = .ok (.ldc2_w 34, 3) := by decide +kernel
theorem dX3_arePlaces_49 : decode cX3_arePlaces 49 = .ok (.lcmp, 1) := by decide +kernel
theorem dX3_arePlaces_50 : decode cX3_arePlaces 50 = .ok (.ifCond .le 5, 3) := by decide +kernel
theorem dX3_arePlaces_53 : decode cX3_arePlaces 53 = .ok (.iconst 0, 1) := by decide +kernel
theorem dX3_arePlaces_54 : decode cX3_arePlaces 54 = .ok (.ireturn, 1) := by decide +kernel
theorem dX3_arePlaces_55 : decode cX3_arePlaces 55 = .ok (.iinc 2 1, 3) := by decide +kernel
theorem dX3_arePlaces_58 : decode cX3_arePlaces 58 = .ok (.goto (-35), 3) := by decide +kernel
theorem dX3_arePlaces_61 : decode cX3_arePlaces 61 = .ok (.iinc 1 1, 3) := by decide +kernel
theorem dX3_arePlaces_64 : decode cX3_arePlaces 64 = .ok (.goto (-51), 3) := by decide +kernel
theorem dX3_arePlaces_67 : decode cX3_arePlaces 67 = .ok (.iconst 1, 1) := by decide +kernel
theorem dX3_arePlaces_68 : decode cX3_arePlaces 68 = .ok (.ireturn, 1) := by decide +kernel
theorem dX3_denies_0 : decode cX3_denies 0 = .ok (.aload_n 1, 1) := by decide +kernel
theorem dX3_denies_1 : decode cX3_denies 1 = .ok (.getfield 36, 3) := by decide +kernel
theorem dX3_denies_4 : decode cX3_denies 4 = .ok (.aload_n 0, 1) := by decide +kernel
theorem dX3_denies_5 : decode cX3_denies 5 = .ok (.getfield 15, 3) := by decide +kernel
theorem dX3_denies_8 : decode cX3_denies 8 = .ok (.if_icmp .ge 14, 3) := by decide +kernel
theorem dX3_denies_11 : decode cX3_denies 11 = .ok (.aload_n 1, 1) := by decide +kernel
theorem dX3_denies_12 : decode cX3_denies 12 = .ok (.getfield 41, 3) := by decide +kernel
theorem dX3_denies_15 : decode cX3_denies 15 = .ok (.aload_n 0, 1) := by decide +kernel
theorem dX3_denies_16 : decode cX3_denies 16 = .ok (.getfield 15, 3) := by decide +kernel
theorem dX3_denies_19 : decode cX3_denies 19 = .ok (.if_icmp .lt 5, 3) := by decide +kernel
theorem dX3_denies_22 : decode cX3_denies 22 = .ok (.iconst 0, 1) := by decide +kernel
theorem dX3_denies_23 : decode cX3_denies 23 = .ok (.ireturn, 1) := by decide +kernel
theorem dX3_denies_24 : decode cX3_denies 24 = .ok (.aload_n 0, 1) := by decide +kernel
theorem dX3_denies_25 : decode cX3_denies 25 = .ok (.getfield 18, 3) := by decide +kernel
theorem dX3_denies_28 : decode cX3_denies 28 = .ok (.aload_n 1, 1) := by decide +kernel
theorem dX3_denies_29 : decode cX3_denies 29 = .ok (.getfield 41, 3) := by decide +kernel
theorem dX3_denies_32 : decode cX3_denies 32 = .ok (.iaload, 1) := by decide +kernel
theorem dX3_denies_33 : decode cX3_denies 33 = .ok (.aload_n 0, 1) := by decide +kernel
theorem dX3_denies_34 : decode cX3_denies 34 = .ok (.getfield 18, 3) := by decide +kernel
theorem dX3_denies_37 : decode cX3_denies 37 = .ok (.aload_n 1, 1) := by decide +kernel
theorem dX3_denies_38 : decode cX3_denies 38 = .ok (.getfield 36, 3) := by decide +kernel
theorem dX3_denies_41 : decode cX3_denies 41 = .ok (.iaload, 1) := by decide +kernel
theorem dX3_denies_42 : decode cX3_denies 42 = .ok (.isub, 1) := by decide +kernel
theorem dX3_denies_43 : decode cX3_denies 43 = .ok (.istore_n 3, 1) := by decide +kernel
theorem dX3_denies_44 : decode cX3_denies 44 = .ok (.iload_n 3, 1) := by decide +kernel
theorem dX3_denies_45 : decode cX3_denies 45 = .ok (.aload_n 1, 1) := by decide +kernel
theorem dX3_denies_46 : decode cX3_denies 46 = .ok (.iload_n 2, 1) := by decide +kernel
theorem dX3_denies_47 : decode cX3_denies 47 = .ok (.invokevirtual 44, 3) := by decide +kernel
theorem dX3_denies_50 : decode cX3_denies 50 = .ok (.if_icmp .lt 12, 3) := by decide +kernel
theorem dX3_denies_53 : decode cX3_denies 53 = .ok (.iload_n 3, 1) := by decide +kernel
theorem dX3_denies_54 : decode cX3_denies 54 = .ok (.aload_n 1, 1) := by decide +kernel
theorem dX3_denies_55 : decode cX3_denies 55 = .ok (.iload_n 2, 1) := by decide +kernel
theorem dX3_denies_56 : decode cX3_denies 56 = .ok (.invokevirtual 48, 3) := by decide +kernel
theorem dX3_denies_59 : decode cX3_denies 59 = .ok (.if_icmp .le 7, 3) := by decide +kernel
theorem dX3_denies_62 : decode cX3_denies 62 = .ok (.iconst 1, 1) := by decide +kernel
theorem dX3_denies_63 : decode cX3_denies 63 = .ok (.goto 4, 3) := by decide +kernel
theorem dX3_denies_66 : decode cX3_denies 66 = .ok (.iconst 0, 1) := by decide +kernel
theorem dX3_denies_67 : decode cX3_denies 67 = .ok (.ireturn, 1) := by decide +kernel
theorem dX4_init_0 : decode cX4_init 0 = .ok (.aload_n 0, 1) := by decide +kernel
theorem dX4_init_1 : decode cX4_init 1 = .ok (.invokespecial 3, 3) := by decide +kernel
theorem dX4_init_4 : decode cX4_init 4 = .ok (.aload_n 0, 1) := by decide +kernel
theorem dX4_init_5 : decode cX4_init 5 = .ok (.iconst 0, 1) := by decide +kernel
theorem dX4_init_6 : decode cX4_init 6 = .ok (.putfield 9, 3) := by decide +kernel
theorem dX4_init_9 : decode cX4_init 9 = .ok (.aload_n 0, 1) := by decide +kernel
theorem dX4_init_10 : decode cX4_init 10 = .ok (.bipush 120, 2) := by decide +kernel
theorem dX4_init_12 : decode cX4_init 12 = .ok (.newarray .int, 2) := by decide +kernel
theorem dX4_init_14 : decode cX4_init 14 = .ok (.putfield 15, 3) := by decide +kernel
theorem dX4_init_17 : decode cX4_init 17 = .ok (.aload_n 0, 1) := by decide +kernel
theorem dX4_init_18 : decode cX4_init 18 = .ok (.iconst 0, 1) := by decide +kernel
theorem dX4_init_19 : decode cX4_init 19 = .ok (.putfield 19, 3) := by decide +kernel
theorem dX4_init_22 : decode cX4_init 22 = .ok (.aload_n 0, 1) := by decide +kernel
theorem dX4_init_23 : decode cX4_init 23 = .ok (.iconst 0, 1) := by decide +kernel
theorem dX4_init_24 : decode cX4_init 24 = .ok (.putfield 22, 3) := by decide +kernel
theorem dX4_init_27 : decode cX4_init 27 = .ok (.aload_n 0, 1) := by decide +kernel
theorem dX4_init_28 : decode cX4_init 28 = .ok (.iconst 0, 1) := by decide +kernel
theorem dX4_init_29 : decode cX4_init 29 = .ok (.putfield 25, 3) := by decide +kernel
theorem dX4_init_32 : decode cX4_init 32 = .ok (.return_, 1) := by decide +kernel
theorem dX4_append_0 : decode cX4_append 0 = .ok (.aload_n 0, 1) := by decide +kernel
theorem dX4_append_1 : decode cX4_append 1 = .ok (.getfield 9, 3) := by decide +kernel
theorem dX4_append_4 : decode cX4_append 4 = .ok (.bipush 120, 2) := by decide +kernel
theorem dX4_append_6 : decode cX4_append 6 = .ok (.if_icmp .ge 23, 3) := by decide +kernel
theorem dX4_append_9 : decode cX4_append 9 = .ok (.aload_n 0, 1) := by decide +kernel
theorem dX4_append_10 : decode cX4_append 10 = .ok (.getfield 15, 3) := by decide +kernel
theorem dX4_append_13 : decode cX4_append 13 = .ok (.aload_n 0, 1) := by decide +kernel
theorem dX4_append_14 : decode cX4_append 14 = .ok (.getfield 9, 3) := by decide +kernel
theorem dX4_append_17 : decode cX4_append 17 = .ok (.iload_n 1, 1) := by decide +kernel
theorem dX4_append_18 : decode cX4_append 18 = .ok (.iastore, 1) := by decide +kernel
theorem dX4_append_19 : decode cX4_append 19 = .ok (.aload_n 0, 1) := by decide +kernel
theorem dX4_append_20 : decode cX4_append 20 = .ok (.dup, 1) := by decide +kernel
theorem dX4_append_21 : decode cX4_append 21 = .ok (.getfield 9, 3) := by decide +kernel
theorem dX4_append_24 : decode cX4_append 24 = .ok (.iconst 1, 1) := by decide +kernel
theorem dX4_append_25 : decode cX4_append 25 = .ok (.iadd, 1) := by decide +kernel
theorem dX4_append_26 : decode cX4_append 26 = .ok (.putfield 9, 3) := by decide +kernel
theorem dX4_append_29 : decode cX4_append 29 = .ok (.return_, 1) := by decide +kernel
theorem dX4_readOnto_0 : decode cX4_readOnto 0 = .ok (.aload_n 0, 1) := by decide +kernel
theorem dX4_readOnto_1 : decode cX4_readOnto 1 = .ok (.iconst 0, 1) := by decide +kernel
theorem dX4_readOnto_2 : decode cX4_readOnto 2 = .ok (.putfield 25, 3) := by decide +kernel
theorem dX4_readOnto_5 : decode cX4_readOnto 5 = .ok (.aload_n 0, 1) := by decide +kernel
theorem dX4_readOnto_6 : decode cX4_readOnto 6 = .ok (.invokevirtual 28, 3) := by decide +kernel
theorem dX4_readOnto_9 : decode cX4_readOnto 9 = .ok (.iconst 1, 1) := by decide +kernel
theorem dX4_readOnto_10 : decode cX4_readOnto 10 = .ok (.istore_n 2, 1) := by decide +kernel
theorem dX4_readOnto_11 : decode cX4_readOnto 11 = .ok (.iload_n 2, 1) := by decide +kernel
theorem dX4_readOnto_12 : decode cX4_readOnto 12 = .ok (.bipush 120, 2) := by decide +kernel
theorem dX4_readOnto_14 : decode cX4_readOnto 14 = .ok (.if_icmp .gt 44, 3) := by decide +kernel
theorem dX4_readOnto_17 : decode cX4_readOnto 17 = .ok (.aload_n 0, 1) := by decide +kernel
theorem dX4_readOnto_18 : decode cX4_readOnto 18 = .ok (.aload_n 1, 1) := by decide +kernel
theorem dX4_readOnto_19 : decode cX4_readOnto 19 = .ok (.invokevirtual 31, 3) := by decide +kernel
theorem dX4_readOnto_22 : decode cX4_readOnto 22 = .ok (.ifCond .ne 6, 3) := by decide +kernel
theorem dX4_readOnto_25 : decode cX4_readOnto 25 = .ok (.goto 33, 3) := by decide +kernel
theorem dX4_readOnto_28 : decode cX4_readOnto 28 = .ok (.aload_n 0, 1) := by decide +kernel
theorem dX4_readOnto_29 : decode cX4_readOnto 29 = .ok (.getfield 19, 3) := by decide +kernel
theorem dX4_readOnto_32 : decode cX4_readOnto 32 = .ok (.ifCond .ne 5, 3) := by decide +kernel
theorem dX4_readOnto_35 : decode cX4_readOnto 35 = .ok (.iload_n 2, 1) := by decide +kernel
theorem dX4_readOnto_36 : decode cX4_readOnto 36 = .ok (.ireturn, 1) := by decide +kernel
theorem dX4_readOnto_37 : decode cX4_readOnto 37 = .ok (.aload_n 0, 1) := by decide +kernel
theorem dX4_readOnto_38 : decode cX4_readOnto 38 = .ok (.getfield 19, 3) := by decide +kernel
theorem dX4_readOnto_41 : decode cX4_readOnto 41 = .ok (.iconst 3, 1) := by decide +kernel
theorem dX4_readOnto_42 : decode cX4_readOnto 42 = .ok (.if_icmp .eq 6, 3) := by decide +kernel
theorem dX4_readOnto_45 : decode cX4_readOnto 45 = .ok (.goto 13, 3) := by decide +kernel
theorem dX4_readOnto_48 : decode cX4_readOnto 48 = .ok (.aload_n 0, 1) := by decide +kernel
theorem dX4_readOnto_49 : decode cX4_readOnto 49 = .ok (.invokevirtual 28, 3) := by decide +kernel
theorem dX4_readOnto_52 : decode cX4_readOnto 52 = .ok (.iinc 2 1, 3) := by decide +kernel
theorem dX4_readOnto_55 : decode cX4_readOnto 55 = .ok (.goto (-44), 3) := by decide +kernel
theorem dX4_readOnto_58 : decode cX4_readOnto 58 = .ok (.iconst (-1), 1) := by decide +kernel
theorem dX4_readOnto_59 : decode cX4_readOnto 59 = .ok (.aload_n 0, 1) := by decide +kernel
theorem dX4_readOnto_60 : decode cX4_readOnto 60 = .ok (.getfield 22, 3) := by decide +kernel
theorem dX4_readOnto_63 : decode cX4_readOnto 63 = .ok (.isub, 1) := by decide +kernel
theorem dX4_readOnto_64 : decode cX4_readOnto 64 = .ok (.ireturn, 1) := by decide +kernel
theorem dX4_readItem_0 : decode cX4_readItem 0 = .ok (.aload_n 0, 1) := by decide +kernel
theorem dX4_readItem_1 : decode cX4_readItem 1 = .ok (.ldc 35, 2) := by decide +kernel
theorem dX4_readItem_3 : decode cX4_readItem 3 = .ok (.invokevirtual 37, 3) := by decide +kernel
theorem dX4_readItem_6 : decode cX4_readItem 6 = .ok (.ifCond .ne 12, 3) := by decide +kernel
theorem dX4_readItem_9 : decode cX4_readItem 9 = .ok (.aload_n 0, 1) := by decide +kernel
theorem dX4_readItem_10 : decode cX4_readItem 10 = .ok (.ldc 41, 2) := by decide +kernel
theorem dX4_readItem_12 : decode cX4_readItem 12 = .ok (.invokevirtual 37, 3) := by decide +kernel
theorem dX4_readItem_15 : decode cX4_readItem 15 = .ok (.ifCond .eq 9, 3) := by decide +kernel
theorem dX4_readItem_18 : decode cX4_readItem 18 = .ok (.aload_n 0, 1) := by decide +kernel
theorem dX4_readItem_19 : decode cX4_readItem 19 = .ok (.aload_n 1, 1) := by decide +kernel
theorem dX4_readItem_20 : decode cX4_readItem 20 = .ok (.invokevirtual 43, 3) := by decide +kernel
theorem dX4_readItem_23 : decode cX4_readItem 23 = .ok (.ireturn, 1) := by decide +kernel
theorem dX4_readItem_24 : decode cX4_readItem 24 = .ok (.aload_n 0, 1) := by decide +kernel
theorem dX4_readItem_25 : decode cX4_readItem 25 = .ok (.invokevirtual 46, 3) := by decide +kernel
theorem dX4_readItem_28 : decode cX4_readItem 28 = .ok (.istore_n 2, 1) := by decide +kernel
theorem dX4_readItem_29 : decode cX4_readItem 29 = .ok (.iload_n 2, 1) := by decide +kernel
theorem dX4_readItem_30 : decode cX4_readItem 30 = .ok (.iconst (-1), 1) := by decide +kernel
theorem dX4_readItem_31 : decode cX4_readItem 31 = .ok (.if_icmp .eq 25, 3) := by decide +kernel
theorem dX4_readItem_34 : decode cX4_readItem 34 = .ok (.aload_n 1, 1) := by decide +kernel
theorem dX4_readItem_35 : decode cX4_readItem 35 = .ok (.getfield 50, 3) := by decide +kernel
theorem dX4_readItem_38 : decode cX4_readItem 38 = .ok (.bipush 8, 2) := by decide +kernel
theorem dX4_readItem_40 : decode cX4_readItem 40 = .ok (.if_icmp .ge 16, 3) := by decide +kernel
theorem dX4_readItem_43 : decode cX4_readItem 43 = .ok (.aload_n 0, 1) := by decide +kernel
theorem dX4_readItem_44 : decode cX4_readItem 44 = .ok (.aload_n 1, 1) := by decide +kernel
theorem dX4_readItem_45 : decode cX4_readItem 45 = .ok (.iload_n 2, 1) := by decide +kernel
theorem dX4_readItem_46 : decode cX4_readItem 46 = .ok (.invokevirtual 55, 3) := by decide +kernel
theorem dX4_readItem_49 : decode cX4_readItem 49 = .ok (.ifCond .eq 7, 3) := by decide +kernel
theorem dX4_readItem_52 : decode cX4_readItem 52 = .ok (.iconst 1, 1) := by decide +kernel
theorem dX4_readItem_53 : decode cX4_readItem 53 = .ok (.goto 4, 3) := by decide +kernel
theorem dX4_readItem_56 : decode cX4_readItem 56 = .ok (.iconst 0, 1) := by decide +kernel
theorem dX4_readItem_57 : decode cX4_readItem 57 = .ok (.ireturn, 1) := by decide +kernel
theorem dX4_readLaw_0 : decode cX4_readLaw 0 = .ok (.aload_n 0, 1) := by decide +kernel
theorem dX4_readLaw_1 : decode cX4_readLaw 1 = .ok (.ldc 35, 2) := by decide +kernel
theorem dX4_readLaw_3 : decode cX4_readLaw 3 = .ok (.invokevirtual 37, 3) := by decide +kernel
theorem dX4_readLaw_6 : decode cX4_readLaw 6 = .ok (.istore_n 2, 1) := by decide +kernel
theorem dX4_readLaw_7 : decode cX4_readLaw 7 = .ok (.aload_n 0, 1) := by decide +kernel
theorem dX4_readLaw_8 : decode cX4_readLaw 8 = .ok (.invokevirtual 28, 3) := by decide +kernel
theorem dX4_readLaw_11 : decode cX4_readLaw 11 = .ok (.aload_n 0, 1) := by decide +kernel
theorem dX4_readLaw_12 : decode cX4_readLaw 12 = .ok (.bipush 9, 2) := by decide +kernel
theorem dX4_readLaw_14 : decode cX4_readLaw 14 = .ok (.invokevirtual 59, 3) := by decide +kernel
theorem dX4_readLaw_17 : decode cX4_readLaw 17 = .ok (.istore_n 3, 1) := by decide +kernel
theorem dX4_readLaw_18 : decode cX4_readLaw 18 = .ok (.iload_n 3, 1) := by decide +kernel
theorem dX4_readLaw_19 : decode cX4_readLaw 19 = .ok (.iconst (-1), 1) := by decide +kernel
theorem dX4_readLaw_20 : decode cX4_readLaw 20 = .ok (.if_icmp .ne 5, 3) := by decide +kernel
theorem dX4_readLaw_23 : decode cX4_readLaw 23 = .ok (.iconst 0, 1) := by decide +kernel
theorem dX4_readLaw_24 : decode cX4_readLaw 24 = .ok (.ireturn, 1) := by decide +kernel
theorem dX4_readLaw_25 : decode cX4_readLaw 25 = .ok (.iload_n 2, 1) := by decide +kernel
theorem dX4_readLaw_26 : decode cX4_readLaw 26 = .ok (.ifCond .eq 11, 3) := by decide +kernel
theorem dX4_readLaw_29 : decode cX4_readLaw 29 = .ok (.aload_n 1, 1) := by decide +kernel
theorem dX4_readLaw_30 : decode cX4_readLaw 30 = .ok (.iload_n 3, 1) := by decide +kernel
theorem dX4_readLaw_31 : decode cX4_readLaw 31 = .ok (.putfield 63, 3) := by decide +kernel
theorem dX4_readLaw_34 : decode cX4_readLaw 34 = .ok (.goto 8, 3) := by decide +kernel
theorem dX4_readLaw_37 : decode cX4_readLaw 37 = .ok (.aload_n 1, 1) := by decide +kernel
theorem dX4_readLaw_38 : decode cX4_readLaw 38 = .ok (.iload_n 3, 1) := by decide +kernel
theorem dX4_readLaw_39 : decode cX4_readLaw 39 = .ok (.putfield 65, 3) := by decide +kernel
theorem dX4_readLaw_42 : decode cX4_readLaw 42 = .ok (.aload_n 0, 1) := by decide +kernel
theorem dX4_readLaw_43 : decode cX4_readLaw 43 = .ok (.invokevirtual 28, 3) := by decide +kernel
theorem dX4_readLaw_46 : decode cX4_readLaw 46 = .ok (.iconst 1, 1) := by decide +kernel
theorem dX4_readLaw_47 : decode cX4_readLaw 47 = .ok (.ireturn, 1) := by decide +kernel
theorem dX4_readLetter_0 : decode cX4_readLetter 0 = .ok (.aload_n 0, 1) := by decide +kernel
theorem dX4_readLetter_1 : decode cX4_readLetter 1 = .ok (.invokevirtual 28, 3) := by decide +kernel
theorem dX4_readLetter_4 : decode cX4_readLetter 4 = .ok (.aload_n 0, 1) := by decide +kernel
theorem dX4_readLetter_5 : decode cX4_readLetter 5 = .ok (.bipush 7, 2) := by decide +kernel
theorem dX4_readLetter_7 : decode cX4_readLetter 7 = .ok (.invokevirtual 59, 3) := by decide +kernel
theorem dX4_readLetter_10 : decode cX4_readLetter 10 = .ok (.istore_n 3, 1) := by decide +kernel
theorem dX4_readLetter_11 : decode cX4_readLetter 11 = .ok (.iload_n 3, 1) := by decide +kernel
theorem dX4_readLetter_12 : decode cX4_readLetter 12 = .ok (.iconst (-1), 1) := by decide +kernel
theorem dX4_readLetter_13 : decode cX4_readLetter 13 = .ok (.if_icmp .ne 5, 3) := by decide +kernel
theorem dX4_readLetter_16 : decode cX4_readLetter 16 = .ok (.iconst 0, 1) := by decide +kernel
theorem dX4_readLetter_17 : decode cX4_readLetter 17 = .ok (.ireturn, 1) := by decide +kernel
theorem dX4_readLetter_18 : decode cX4_readLetter 18 = .ok (.aload_n 0, 1) := by decide +kernel
theorem dX4_readLetter_19 : decode cX4_readLetter 19 = .ok (.invokevirtual 28, 3) := by decide +kernel
theorem dX4_readLetter_22 : decode cX4_readLetter 22 = .ok (.aload_n 0, 1) := by decide +kernel
theorem dX4_readLetter_23 : decode cX4_readLetter 23 = .ok (.bipush 7, 2) := by decide +kernel
theorem dX4_readLetter_25 : decode cX4_readLetter 25 = .ok (.invokevirtual 59, 3) := by decide +kernel
theorem dX4_readLetter_28 : decode cX4_readLetter 28 = .ok (.istore 4, 2) := by decide +kernel
theorem dX4_readLetter_30 : decode cX4_readLetter 30 = .ok (.iload 4, 2) := by decide +kernel
theorem dX4_readLetter_32 : decode cX4_readLetter 32 = .ok (.iconst (-1), 1) := by decide +kernel
theorem dX4_readLetter_33 : decode cX4_readLetter 33 = .ok (.if_icmp .eq 9, 3) := by decide +kernel
theorem dX4_readLetter_36 : decode cX4_readLetter 36 = .ok (.iload 4, 2) := by decide +kernel
theorem dX4_readLetter_38 : decode cX4_readLetter 38 = .ok (.iload_n 3, 1) := by decide +kernel
theorem dX4_readLetter_39 : decode cX4_readLetter 39 = .ok (.if_icmp .ne 5, 3) := by decide +kernel
theorem dX4_readLetter_42 : decode cX4_readLetter 42 = .ok (.iconst 0, 1) := by decide +kernel
theorem dX4_readLetter_43 : decode cX4_readLetter 43 = .ok (.ireturn, 1) := by decide +kernel
theorem dX4_readLetter_44 : decode cX4_readLetter 44 = .ok (.aload_n 0, 1) := by decide +kernel
theorem dX4_readLetter_45 : decode cX4_readLetter 45 = .ok (.invokevirtual 28, 3) := by decide +kernel
theorem dX4_readLetter_48 : decode cX4_readLetter 48 = .ok (.aload_n 1, 1) := by decide +kernel
theorem dX4_readLetter_49 : decode cX4_readLetter 49 = .ok (.getfield 67, 3) := by decide +kernel
theorem dX4_readLetter_52 : decode cX4_readLetter 52 = .ok (.aload_n 1, 1) := by decide +kernel
theorem dX4_readLetter_53 : decode cX4_readLetter 53 = .ok (.iload_n 2, 1) := by decide +kernel
theorem dX4_readLetter_54 : decode cX4_readLetter 54 = .ok (.iload_n 3, 1) := by decide +kernel
theorem dX4_readLetter_55 : decode cX4_readLetter 55 = .ok (.iload 4, 2) := by decide +kernel
theorem dX4_readLetter_57 : decode cX4_readLetter 57 = .ok (.iconst 0, 1) := by decide +kernel
theorem dX4_readLetter_58 : decode cX4_readLetter 58 = .ok (.iconst 0, 1) := by decide +kernel
theorem dX4_readLetter_59 : decode cX4_readLetter 59 = .ok (.invokevirtual 71, 3) := by decide +kernel
theorem dX4_readLetter_62 : decode cX4_readLetter 62 = .ok (.aaload, 1) := by decide +kernel
theorem dX4_readLetter_63 : decode cX4_readLetter 63 = .ok (.astore 5, 2) := by decide +kernel
theorem dX4_readLetter_65 : decode cX4_readLetter 65 = .ok (.aload_n 0, 1) := by decide +kernel
theorem dX4_readLetter_66 : decode cX4_readLetter 66 = .ok (.aload 5, 2) := by decide +kernel
theorem dX4_readLetter_68 : decode cX4_readLetter 68 = .ok (.invokevirtual 75, 3) := by decide +kernel
theorem dX4_readLetter_71 : decode cX4_readLetter 71 = .ok (.ifCond .eq 25, 3) := by decide +kernel
theorem dX4_readLetter_74 : decode cX4_readLetter 74 = .ok (.aload_n 0, 1) := by decide +kernel
theorem dX4_readLetter_75 : decode cX4_readLetter 75 = .ok (.aload 5, 2) := by decide +kernel
theorem dX4_readLetter_77 : decode cX4_readLetter 77 = .ok (.invokevirtual 79, 3) := by decide +kernel
theorem dX4_readLetter_80 : decode cX4_readLetter 80 = .ok (.ifCond .eq 16, 3) := by decide +kernel
theorem dX4_readLetter_83 : decode cX4_readLetter 83 = .ok (.aload_n 0, 1) := by decide +kernel
theorem dX4_readLetter_84 : decode cX4_readLetter 84 = .ok (.aload 5, 2) := by decide +kernel
theorem dX4_readLetter_86 : decode cX4_readLetter 86 = .ok (.invokevirtual 82, 3) := by decide +kernel
theorem dX4_readLetter_89 : decode cX4_readLetter 89 = .ok (.ifCond .eq 7, 3) := by decide +kernel
theorem dX4_readLetter_92 : decode cX4_readLetter 92 = .ok (.iconst 1, 1) := by decide +kernel
theorem dX4_readLetter_93 : decode cX4_readLetter 93 = .ok (.goto 4, 3) := by decide +kernel
theorem dX4_readLetter_96 : decode cX4_readLetter 96 = .ok (.iconst 0, 1) := by decide +kernel
theorem dX4_readLetter_97 : decode cX4_readLetter 97 = .ok (.ireturn, 1) := by decide +kernel
theorem dX4_readDays_0 : decode cX4_readDays 0 = .ok (.aload_n 0, 1) := by decide +kernel
theorem dX4_readDays_1 : decode cX4_readDays 1 = .ok (.ldc 85, 2) := by decide +kernel
theorem dX4_readDays_3 : decode cX4_readDays 3 = .ok (.invokevirtual 37, 3) := by decide +kernel
theorem dX4_readDays_6 : decode cX4_readDays 6 = .ok (.ifCond .ne 5, 3) := by decide +kernel
theorem dX4_readDays_9 : decode cX4_readDays 9 = .ok (.iconst 0, 1) := by decide +kernel
theorem dX4_readDays_10 : decode cX4_readDays 10 = .ok (.ireturn, 1) := by decide +kernel
theorem dX4_readDays_11 : decode cX4_readDays 11 = .ok (.aload_n 0, 1) := by decide +kernel
theorem dX4_readDays_12 : decode cX4_readDays 12 = .ok (.invokevirtual 28, 3) := by decide +kernel
theorem dX4_readDays_15 : decode cX4_readDays 15 = .ok (.aload_n 0, 1) := by decide +kernel
theorem dX4_readDays_16 : decode cX4_readDays 16 = .ok (.getfield 19, 3) := by decide +kernel
theorem dX4_readDays_19 : decode cX4_readDays 19 = .ok (.iconst 4, 1) := by decide +kernel
theorem dX4_readDays_20 : decode cX4_readDays 20 = .ok (.if_icmp .ne 7, 3) := by decide +kernel
theorem dX4_readDays_23 : decode cX4_readDays 23 = .ok (.iconst 1, 1) := by decide +kernel
theorem dX4_readDays_24 : decode cX4_readDays 24 = .ok (.goto 4, 3) := by decide +kernel
theorem dX4_readDays_27 : decode cX4_readDays 27 = .ok (.iconst 0, 1) := by decide +kernel
theorem dX4_readDays_28 : decode cX4_readDays 28 = .ok (.istore_n 2, 1) := by decide +kernel
theorem dX4_readDays_29 : decode cX4_readDays 29 = .ok (.iload_n 2, 1) := by decide +kernel
theorem dX4_readDays_30 : decode cX4_readDays 30 = .ok (.ifCond .eq 7, 3) := by decide +kernel
theorem dX4_readDays_33 : decode cX4_readDays 33 = .ok (.aload_n 0, 1) := by decide +kernel
theorem dX4_readDays_34 : decode cX4_readDays 34 = .ok (.invokevirtual 28, 3) := by decide +kernel
theorem dX4_readDays_37 : decode cX4_readDays 37 = .ok (.aload_n 0, 1) := by decide +kernel
theorem dX4_readDays_38 : decode cX4_readDays 38 = .ok (.bipush 99, 2) := by decide +kernel
theorem dX4_readDays_40 : decode cX4_readDays 40 = .ok (.invokevirtual 59, 3) := by decide +kernel
theorem dX4_readDays_43 : decode cX4_readDays 43 = .ok (.istore_n 3, 1) := by decide +kernel
theorem dX4_readDays_44 : decode cX4_readDays 44 = .ok (.iload_n 3, 1) := by decide +kernel
theorem dX4_readDays_45 : decode cX4_readDays 45 = .ok (.iconst (-1), 1) := by decide +kernel
theorem dX4_readDays_46 : decode cX4_readDays 46 = .ok (.if_icmp .ne 5, 3) := by decide +kernel
theorem dX4_readDays_49 : decode cX4_readDays 49 = .ok (.iconst 0, 1) := by decide +kernel
theorem dX4_readDays_50 : decode cX4_readDays 50 = .ok (.ireturn, 1) := by decide +kernel
theorem dX4_readDays_51 : decode cX4_readDays 51 = .ok (.aload_n 1, 1) := by decide +kernel
theorem dX4_readDays_52 : decode cX4_readDays 52 = .ok (.iload_n 2, 1) := by decide +kernel
theorem dX4_readDays_53 : decode cX4_readDays 53 = .ok (.ifCond .eq 8, 3) := by decide +kernel
theorem dX4_readDays_56 : decode cX4_readDays 56 = .ok (.iload_n 3, 1) := by decide +kernel
theorem dX4_readDays_57 : decode cX4_readDays 57 = .ok (.ineg, 1) := by decide +kernel
theorem dX4_readDays_58 : decode cX4_readDays 58 = .ok (.goto 4, 3) := by decide +kernel
theorem dX4_readDays_61 : decode cX4_readDays 61 = .ok (.iload_n 3, 1) := by decide +kernel
theorem dX4_readDays_62 : decode cX4_readDays 62 = .ok (.putfield 87, 3) := by decide +kernel
theorem dX4_readDays_65 : decode cX4_readDays 65 = .ok (.aload_n 0, 1) := by decide +kernel
theorem dX4_readDays_66 : decode cX4_readDays 66 = .ok (.invokevirtual 28, 3) := by decide +kernel
theorem dX4_readDays_69 : decode cX4_readDays 69 = .ok (.iconst 1, 1) := by decide +kernel
theorem dX4_readDays_70 : decode cX4_readDays 70 = .ok (.ireturn, 1) := by decide +kernel
theorem dX4_readMark_0 : decode cX4_readMark 0 = .ok (.aload_n 0, 1) := by decide +kernel
theorem dX4_readMark_1 : decode cX4_readMark 1 = .ok (.ldc 91, 2) := by decide +kernel
theorem dX4_readMark_3 : decode cX4_readMark 3 = .ok (.invokevirtual 37, 3) := by decide +kernel
theorem dX4_readMark_6 : decode cX4_readMark 6 = .ok (.ifCond .ne 5, 3) := by decide +kernel
theorem dX4_readMark_9 : decode cX4_readMark 9 = .ok (.iconst 1, 1) := by decide +kernel
theorem dX4_readMark_10 : decode cX4_readMark 10 = .ok (.ireturn, 1) := by decide +kernel
theorem dX4_readMark_11 : decode cX4_readMark 11 = .ok (.aload_n 0, 1) := by decide +kernel
theorem dX4_readMark_12 : decode cX4_readMark 12 = .ok (.invokevirtual 28, 3) := by decide +kernel
theorem dX4_readMark_15 : decode cX4_readMark 15 = .ok (.aload_n 0, 1) := by decide +kernel
theorem dX4_readMark_16 : decode cX4_readMark 16 = .ok (.sipush 999, 3) := by decide +kernel
theorem dX4_readMark_19 : decode cX4_readMark 19 = .ok (.invokevirtual 59, 3) := by decide +kernel
theorem dX4_readMark_22 : decode cX4_readMark 22 = .ok (.istore_n 2, 1) := by decide +kernel
theorem dX4_readMark_23 : decode cX4_readMark 23 = .ok (.iload_n 2, 1) := by decide +kernel
theorem dX4_readMark_24 : decode cX4_readMark 24 = .ok (.iconst (-1), 1) := by decide +kernel
theorem dX4_readMark_25 : decode cX4_readMark 25 = .ok (.if_icmp .ne 5, 3) := by decide +kernel
theorem dX4_readMark_28 : decode cX4_readMark 28 = .ok (.iconst 0, 1) := by decide +kernel
theorem dX4_readMark_29 : decode cX4_readMark 29 = .ok (.ireturn, 1) := by decide +kernel
theorem dX4_readMark_30 : decode cX4_readMark 30 = .ok (.aload_n 1, 1) := by decide +kernel
theorem dX4_readMark_31 : decode cX4_readMark 31 = .ok (.iload_n 2, 1) := by decide +kernel
theorem dX4_readMark_32 : decode cX4_readMark 32 = .ok (.putfield 93, 3) := by decide +kernel
theorem dX4_readMark_35 : decode cX4_readMark 35 = .ok (.aload_n 0, 1) := by decide +kernel
theorem dX4_readMark_36 : decode cX4_readMark 36 = .ok (.invokevirtual 28, 3) := by decide +kernel
theorem dX4_readMark_39 : decode cX4_readMark 39 = .ok (.iconst 1, 1) := by decide +kernel
theorem dX4_readMark_40 : decode cX4_readMark 40 = .ok (.ireturn, 1) := by decide +kernel
theorem dX4_readStruck_0 : decode cX4_readStruck 0 = .ok (.aload_n 0, 1) := by decide +kernel
theorem dX4_readStruck_1 : decode cX4_readStruck 1 = .ok (.ldc 95, 2) := by decide +kernel
theorem dX4_readStruck_3 : decode cX4_readStruck 3 = .ok (.invokevirtual 37, 3) := by decide +kernel
theorem dX4_readStruck_6 : decode cX4_readStruck 6 = .ok (.ifCond .eq 12, 3) := by decide +kernel
theorem dX4_readStruck_9 : decode cX4_readStruck 9 = .ok (.aload_n 1, 1) := by decide +kernel
theorem dX4_readStruck_10 : decode cX4_readStruck 10 = .ok (.iconst 1, 1) := by decide +kernel
theorem dX4_readStruck_11 : decode cX4_readStruck 11 = .ok (.putfield 97, 3) := by decide +kernel
theorem dX4_readStruck_14 : decode cX4_readStruck 14 = .ok (.aload_n 0, 1) := by decide +kernel
theorem dX4_readStruck_15 : decode cX4_readStruck 15 = .ok (.invokevirtual 28, 3) := by decide +kernel
theorem dX4_readStruck_18 : decode cX4_readStruck 18 = .ok (.iconst 1, 1) := by decide +kernel
theorem dX4_readStruck_19 : decode cX4_readStruck 19 = .ok (.ireturn, 1) := by decide +kernel
theorem dX4_step_0 : decode cX4_step 0 = .ok (.aload_n 0, 1) := by decide +kernel
theorem dX4_step_1 : decode cX4_step 1 = .ok (.getfield 25, 3) := by decide +kernel
theorem dX4_step_4 : decode cX4_step 4 = .ok (.aload_n 0, 1) := by decide +kernel
theorem dX4_step_5 : decode cX4_step 5 = .ok (.getfield 9, 3) := by decide +kernel
theorem dX4_step_8 : decode cX4_step 8 = .ok (.if_icmp .ge 30, 3) := by decide +kernel
theorem dX4_step_11 : decode cX4_step 11 = .ok (.aload_n 0, 1) := by decide +kernel
theorem dX4_step_12 : decode cX4_step 12 = .ok (.getfield 15, 3) := by decide +kernel
theorem dX4_step_15 : decode cX4_step 15 = .ok (.aload_n 0, 1) := by decide +kernel
theorem dX4_step_16 : decode cX4_step 16 = .ok (.getfield 25, 3) := by decide +kernel
theorem dX4_step_19 : decode cX4_step 19 = .ok (.iaload, 1) := by decide +kernel
theorem dX4_step_20 : decode cX4_step 20 = .ok (.bipush 32, 2) := by decide +kernel
theorem dX4_step_22 : decode cX4_step 22 = .ok (.if_icmp .ne 16, 3) := by decide +kernel
theorem dX4_step_25 : decode cX4_step 25 = .ok (.aload_n 0, 1) := by decide +kernel
theorem dX4_step_26 : decode cX4_step 26 = .ok (.dup, 1) := by decide +kernel
theorem dX4_step_27 : decode cX4_step 27 = .ok (.getfield 25, 3) := by decide +kernel
theorem dX4_step_30 : decode cX4_step 30 = .ok (.iconst 1, 1) := by decide +kernel
theorem dX4_step_31 : decode cX4_step 31 = .ok (.iadd, 1) := by decide +kernel
theorem dX4_step_32 : decode cX4_step 32 = .ok (.putfield 25, 3) := by decide +kernel
theorem dX4_step_35 : decode cX4_step 35 = .ok (.goto (-35), 3) := by decide +kernel
theorem dX4_step_38 : decode cX4_step 38 = .ok (.aload_n 0, 1) := by decide +kernel
theorem dX4_step_39 : decode cX4_step 39 = .ok (.aload_n 0, 1) := by decide +kernel
theorem dX4_step_40 : decode cX4_step 40 = .ok (.getfield 25, 3) := by decide +kernel
theorem dX4_step_43 : decode cX4_step 43 = .ok (.putfield 22, 3) := by decide +kernel
theorem dX4_step_46 : decode cX4_step 46 = .ok (.aload_n 0, 1) := by decide +kernel
theorem dX4_step_47 : decode cX4_step 47 = .ok (.getfield 22, 3) := by decide +kernel
theorem dX4_step_50 : decode cX4_step 50 = .ok (.aload_n 0, 1) := by decide +kernel
theorem dX4_step_51 : decode cX4_step 51 = .ok (.getfield 9, 3) := by decide +kernel
theorem dX4_step_54 : decode cX4_step 54 = .ok (.if_icmp .lt 9, 3) := by decide +kernel
theorem dX4_step_57 : decode cX4_step 57 = .ok (.aload_n 0, 1) := by decide +kernel
theorem dX4_step_58 : decode cX4_step 58 = .ok (.iconst 0, 1) := by decide +kernel
theorem dX4_step_59 : decode cX4_step 59 = .ok (.putfield 19, 3) := by decide +kernel
theorem dX4_step_62 : decode cX4_step 62 = .ok (.return_, 1) := by decide +kernel
theorem dX4_step_63 : decode cX4_step 63 = .ok (.aload_n 0, 1) := by decide +kernel
theorem dX4_step_64 : decode cX4_step 64 = .ok (.aload_n 0, 1) := by decide +kernel
theorem dX4_step_65 : decode cX4_step 65 = .ok (.getfield 15, 3) := by decide +kernel
theorem dX4_step_68 : decode cX4_step 68 = .ok (.aload_n 0, 1) := by decide +kernel
theorem dX4_step_69 : decode cX4_step 69 = .ok (.getfield 22, 3) := by decide +kernel
theorem dX4_step_72 : decode cX4_step 72 = .ok (.iaload, 1) := by decide +kernel
theorem dX4_step_73 : decode cX4_step 73 = .ok (.invokestatic 99, 3) := by decide +kernel
theorem dX4_step_76 : decode cX4_step 76 = .ok (.putfield 19, 3) := by decide +kernel
theorem dX4_step_79 : decode cX4_step 79 = .ok (.aload_n 0, 1) := by decide +kernel
theorem dX4_step_80 : decode cX4_step 80 = .ok (.dup, 1) := by decide +kernel
theorem dX4_step_81 : decode cX4_step 81 = .ok (.getfield 25, 3) := by decide +kernel
theorem dX4_step_84 : decode cX4_step 84 = .ok (.iconst 1, 1) := by decide +kernel
theorem dX4_step_85 : decode cX4_step 85 = .ok (.iadd, 1) := by decide +kernel
theorem dX4_step_86 : decode cX4_step 86 = .ok (.putfield 25, 3) := by decide +kernel
theorem dX4_step_89 : decode cX4_step 89 = .ok (.aload_n 0, 1) := by decide +kernel
theorem dX4_step_90 : decode cX4_step 90 = .ok (.getfield 19, 3) := by decide +kernel
theorem dX4_step_93 : decode cX4_step 93 = .ok (.iconst 1, 1) := by decide +kernel
theorem dX4_step_94 : decode cX4_step 94 = .ok (.if_icmp .eq 12, 3) := by decide +kernel
theorem dX4_step_97 : decode cX4_step 97 = .ok (.aload_n 0, 1) := by decide +kernel
theorem dX4_step_98 : decode cX4_step 98 = .ok (.getfield 19, 3) := by decide +kernel
theorem dX4_step_101 : decode cX4_step 101 = .ok (.iconst 2, 1) := by decide +kernel
theorem dX4_step_102 : decode cX4_step 102 = .ok (.if_icmp .eq 4, 3) := by decide +kernel
theorem dX4_step_105 : decode cX4_step 105 = .ok (.return_, 1) := by decide +kernel
theorem dX4_step_106 : decode cX4_step 106 = .ok (.aload_n 0, 1) := by decide +kernel
theorem dX4_step_107 : decode cX4_step 107 = .ok (.getfield 25, 3) := by decide +kernel
theorem dX4_step_110 : decode cX4_step 110 = .ok (.aload_n 0, 1) := by decide +kernel
theorem dX4_step_111 : decode cX4_step 111 = .ok (.getfield 9, 3) := by decide +kernel
theorem dX4_step_114 : decode cX4_step 114 = .ok (.if_icmp .ge 35, 3) := by decide +kernel
theorem dX4_step_117 : decode cX4_step 117 = .ok (.aload_n 0, 1) := by decide +kernel
theorem dX4_step_118 : decode cX4_step 118 = .ok (.getfield 15, 3) := by decide +kernel
theorem dX4_step_121 : decode cX4_step 121 = .ok (.aload_n 0, 1) := by decide +kernel
theorem dX4_step_122 : decode cX4_step 122 = .ok (.getfield 25, 3) := by decide +kernel
theorem dX4_step_125 : decode cX4_step 125 = .ok (.iaload, 1) := by decide +kernel
theorem dX4_step_126 : decode cX4_step 126 = .ok (.invokestatic 99, 3) := by decide +kernel
theorem dX4_step_129 : decode cX4_step 129 = .ok (.aload_n 0, 1) := by decide +kernel
theorem dX4_step_130 : decode cX4_step 130 = .ok (.getfield 19, 3) := by decide +kernel
theorem dX4_step_133 : decode cX4_step 133 = .ok (.if_icmp .ne 16, 3) := by decide +kernel
theorem dX4_step_136 : decode cX4_step 136 = .ok (.aload_n 0, 1) := by decide +kernel
theorem dX4_step_137 : decode cX4_step 137 = .ok (.dup, 1) := by decide +kernel
theorem dX4_step_138 : decode cX4_step 138 = .ok (.getfield 25, 3) := by decide +kernel
theorem dX4_step_141 : decode cX4_step 141 = .ok (.iconst 1, 1) := by decide +kernel
theorem dX4_step_142 : decode cX4_step 142 = .ok (.iadd, 1) := by decide +kernel
theorem dX4_step_143 : decode cX4_step 143 = .ok (.putfield 25, 3) := by decide +kernel
theorem dX4_step_146 : decode cX4_step 146 = .ok (.goto (-40), 3) := by decide +kernel
theorem dX4_step_149 : decode cX4_step 149 = .ok (.return_, 1) := by decide +kernel
theorem dX4_tokenBegunBy_0 : decode cX4_tokenBegunBy 0 = .ok (.iload_n 0, 1) := by decide +kernel
theorem dX4_tokenBegunBy_1 : decode cX4_tokenBegunBy 1 = .ok (.bipush 97, 2) := by decide +kernel
theorem dX4_tokenBegunBy_3 : decode cX4_tokenBegunBy 3 = .ok (.if_icmp .lt 11, 3) := by decide +kernel
theorem dX4_tokenBegunBy_6 : decode cX4_tokenBegunBy 6 = .ok (.iload_n 0, 1) := by decide +kernel
theorem dX4_tokenBegunBy_7 : decode cX4_tokenBegunBy 7 = .ok (.bipush 122, 2) := by decide +kernel
theorem dX4_tokenBegunBy_9 : decode cX4_tokenBegunBy 9 = .ok (.if_icmp .gt 5, 3) := by decide +kernel
theorem dX4_tokenBegunBy_12 : decode cX4_tokenBegunBy 12 = .ok (.iconst 1, 1) := by decide +kernel
theorem dX4_tokenBegunBy_13 : decode cX4_tokenBegunBy 13 = .ok (.ireturn, 1) := by decide +kernel
theorem dX4_tokenBegunBy_14 : decode cX4_tokenBegunBy 14 = .ok (.iload_n 0, 1) := by decide +kernel
theorem dX4_tokenBegunBy_15 : decode cX4_tokenBegunBy 15 = .ok (.bipush 48, 2) := by decide +kernel
theorem dX4_tokenBegunBy_17 : decode cX4_tokenBegunBy 17 = .ok (.if_icmp .lt 11, 3) := by decide +kernel
theorem dX4_tokenBegunBy_20 : decode cX4_tokenBegunBy 20 = .ok (.iload_n 0, 1) := by decide +kernel
theorem dX4_tokenBegunBy_21 : decode cX4_tokenBegunBy 21 = .ok (.bipush 57, 2) := by decide +kernel
theorem dX4_tokenBegunBy_23 : decode cX4_tokenBegunBy 23 = .ok (.if_icmp .gt 5, 3) := by decide +kernel
theorem dX4_tokenBegunBy_26 : decode cX4_tokenBegunBy 26 = .ok (.iconst 2, 1) := by decide +kernel
theorem dX4_tokenBegunBy_27 : decode cX4_tokenBegunBy 27 = .ok (.ireturn, 1) := by decide +kernel
theorem dX4_tokenBegunBy_28 : decode cX4_tokenBegunBy 28 = .ok (.iload_n 0, 1) := by decide +kernel
theorem dX4_tokenBegunBy_29 : decode cX4_tokenBegunBy 29 = .ok (.bipush 59, 2) := by decide +kernel
theorem dX4_tokenBegunBy_31 : decode cX4_tokenBegunBy 31 = .ok (.if_icmp .ne 5, 3) := by decide +kernel
theorem dX4_tokenBegunBy_34 : decode cX4_tokenBegunBy 34 = .ok (.iconst 3, 1) := by decide +kernel
theorem dX4_tokenBegunBy_35 : decode cX4_tokenBegunBy 35 = .ok (.ireturn, 1) := by decide +kernel
theorem dX4_tokenBegunBy_36 : decode cX4_tokenBegunBy 36 = .ok (.iload_n 0, 1) := by decide +kernel
theorem dX4_tokenBegunBy_37 : decode cX4_tokenBegunBy 37 = .ok (.bipush 45, 2) := by decide +kernel
theorem dX4_tokenBegunBy_39 : decode cX4_tokenBegunBy 39 = .ok (.if_icmp .ne 7, 3) := by decide +kernel
theorem dX4_tokenBegunBy_42 : decode cX4_tokenBegunBy 42 = .ok (.iconst 4, 1) := by decide +kernel
theorem dX4_tokenBegunBy_43 : decode cX4_tokenBegunBy 43 = .ok (.goto 4, 3) := by decide +kernel
theorem dX4_tokenBegunBy_46 : decode cX4_tokenBegunBy 46 = .ok (.iconst 5, 1) := by decide +kernel
theorem dX4_tokenBegunBy_47 : decode cX4_tokenBegunBy 47 = .ok (.ireturn, 1) := by decide +kernel
theorem dX4_isWord_0 : decode cX4_isWord 0 = .ok (.aload_n 0, 1) := by decide +kernel
theorem dX4_isWord_1 : decode cX4_isWord 1 = .ok (.getfield 19, 3) := by decide +kernel
theorem dX4_isWord_4 : decode cX4_isWord 4 = .ok (.iconst 1, 1) := by decide +kernel
theorem dX4_isWord_5 : decode cX4_isWord 5 = .ok (.if_icmp .ne 19, 3) := by decide +kernel
theorem dX4_isWord_8 : decode cX4_isWord 8 = .ok (.aload_n 0, 1) := by decide +kernel
theorem dX4_isWord_9 : decode cX4_isWord 9 = .ok (.getfield 25, 3) := by decide +kernel
theorem dX4_isWord_12 : decode cX4_isWord 12 = .ok (.aload_n 0, 1) := by decide +kernel
theorem dX4_isWord_13 : decode cX4_isWord 13 = .ok (.getfield 22, 3) := by decide +kernel
theorem dX4_isWord_16 : decode cX4_isWord 16 = .ok (.isub, 1) := by decide +kernel
theorem dX4_isWord_17 : decode cX4_isWord 17 = .ok (.aload_n 1, 1) := by decide +kernel
theorem dX4_isWord_18 : decode cX4_isWord 18 = .ok (.invokevirtual 102, 3) := by decide +kernel
theorem dX4_isWord_21 : decode cX4_isWord 21 = .ok (.if_icmp .eq 5, 3) := by decide +kernel
theorem dX4_isWord_24 : decode cX4_isWord 24 = .ok (.iconst 0, 1) := by decide +kernel
theorem dX4_isWord_25 : decode cX4_isWord 25 = .ok (.ireturn, 1) := by decide +kernel
theorem dX4_isWord_26 : decode cX4_isWord 26 = .ok (.iconst 0, 1) := by decide +kernel
theorem dX4_isWord_27 : decode cX4_isWord 27 = .ok (.istore_n 2, 1) := by decide +kernel
theorem dX4_isWord_28 : decode cX4_isWord 28 = .ok (.iload_n 2, 1) := by decide +kernel
theorem dX4_isWord_29 : decode cX4_isWord 29 = .ok (.aload_n 1, 1) := by decide +kernel
theorem dX4_isWord_30 : decode cX4_isWord 30 = .ok (.invokevirtual 102, 3) := by decide +kernel
theorem dX4_isWord_33 : decode cX4_isWord 33 = .ok (.if_icmp .ge 30, 3) := by decide +kernel
theorem dX4_isWord_36 : decode cX4_isWord 36 = .ok (.aload_n 1, 1) := by decide +kernel
theorem dX4_isWord_37 : decode cX4_isWord 37 = .ok (.iload_n 2, 1) := by decide +kernel
theorem dX4_isWord_38 : decode cX4_isWord 38 = .ok (.invokevirtual 107, 3) := by decide +kernel
theorem dX4_isWord_41 : decode cX4_isWord 41 = .ok (.aload_n 0, 1) := by decide +kernel
theorem dX4_isWord_42 : decode cX4_isWord 42 = .ok (.getfield 15, 3) := by decide +kernel
theorem dX4_isWord_45 : decode cX4_isWord 45 = .ok (.aload_n 0, 1) := by decide +kernel
theorem dX4_isWord_46 : decode cX4_isWord 46 = .ok (.getfield 22, 3) := by decide +kernel
theorem dX4_isWord_49 : decode cX4_isWord 49 = .ok (.iload_n 2, 1) := by decide +kernel
theorem dX4_isWord_50 : decode cX4_isWord 50 = .ok (.iadd, 1) := by decide +kernel
theorem dX4_isWord_51 : decode cX4_isWord 51 = .ok (.iaload, 1) := by decide +kernel
theorem dX4_isWord_52 : decode cX4_isWord 52 = .ok (.if_icmp .eq 5, 3) := by decide +kernel
theorem dX4_isWord_55 : decode cX4_isWord 55 = .ok (.iconst 0, 1) := by decide +kernel
theorem dX4_isWord_56 : decode cX4_isWord 56 = .ok (.ireturn, 1) := by decide +kernel
theorem dX4_isWord_57 : decode cX4_isWord 57 = .ok (.iinc 2 1, 3) := by decide +kernel
theorem dX4_isWord_60 : decode cX4_isWord 60 = .ok (.goto (-32), 3) := by decide +kernel
theorem dX4_isWord_63 : decode cX4_isWord 63 = .ok (.iconst 1, 1) := by decide +kernel
theorem dX4_isWord_64 : decode cX4_isWord 64 = .ok (.ireturn, 1) := by decide +kernel
theorem dX4_kindTold_0 : decode cX4_kindTold 0 = .ok (.iconst 0, 1) := by decide +kernel
theorem dX4_kindTold_1 : decode cX4_kindTold 1 = .ok (.istore_n 1, 1) := by decide +kernel
theorem dX4_kindTold_2 : decode cX4_kindTold 2 = .ok (.iload_n 1, 1) := by decide +kernel
theorem dX4_kindTold_3 : decode cX4_kindTold 3 = .ok (.bipush 7, 2) := by decide +kernel
theorem dX4_kindTold_5 : decode cX4_kindTold 5 = .ok (.if_icmp .ge 22, 3) := by decide +kernel
theorem dX4_kindTold_8 : decode cX4_kindTold 8 = .ok (.aload_n 0, 1) := by decide +kernel
theorem dX4_kindTold_9 : decode cX4_kindTold 9 = .ok (.iload_n 1, 1) := by decide +kernel
theorem dX4_kindTold_10 : decode cX4_kindTold 10 = .ok (.invokestatic 111, 3) := by decide +kernel
theorem dX4_kindTold_13 : decode cX4_kindTold 13 = .ok (.invokevirtual 37, 3) := by decide +kernel
theorem dX4_kindTold_16 : decode cX4_kindTold 16 = .ok (.ifCond .eq 5, 3) := by decide +kernel
theorem dX4_kindTold_19 : decode cX4_kindTold 19 = .ok (.iload_n 1, 1) := by decide +kernel
theorem dX4_kindTold_20 : decode cX4_kindTold 20 = .ok (.ireturn, 1) := by decide +kernel
theorem dX4_kindTold_21 : decode cX4_kindTold 21 = .ok (.iinc 1 1, 3) := by decide +kernel
theorem dX4_kindTold_24 : decode cX4_kindTold 24 = .ok (.goto (-22), 3) := by decide +kernel
theorem dX4_kindTold_27 : decode cX4_kindTold 27 = .ok (.iconst (-1), 1) := by decide +kernel
theorem dX4_kindTold_28 : decode cX4_kindTold 28 = .ok (.ireturn, 1) := by decide +kernel
theorem dX4_numberTold_0 : decode cX4_numberTold 0 = .ok (.aload_n 0, 1) := by decide +kernel
theorem dX4_numberTold_1 : decode cX4_numberTold 1 = .ok (.getfield 19, 3) := by decide +kernel
theorem dX4_numberTold_4 : decode cX4_numberTold 4 = .ok (.iconst 2, 1) := by decide +kernel
theorem dX4_numberTold_5 : decode cX4_numberTold 5 = .ok (.if_icmp .eq 5, 3) := by decide +kernel
theorem dX4_numberTold_8 : decode cX4_numberTold 8 = .ok (.iconst (-1), 1) := by decide +kernel
theorem dX4_numberTold_9 : decode cX4_numberTold 9 = .ok (.ireturn, 1) := by decide +kernel
theorem dX4_numberTold_10 : decode cX4_numberTold 10 = .ok (.iconst 0, 1) := by decide +kernel
theorem dX4_numberTold_11 : decode cX4_numberTold 11 = .ok (.istore_n 2, 1) := by decide +kernel
theorem dX4_numberTold_12 : decode cX4_numberTold 12 = .ok (.aload_n 0, 1) := by decide +kernel
theorem dX4_numberTold_13 : decode cX4_numberTold 13 = .ok (.getfield 22, 3) := by decide +kernel
theorem dX4_numberTold_16 : decode cX4_numberTold 16 = .ok (.istore_n 3, 1) := by decide +kernel
theorem dX4_numberTold_17 : decode cX4_numberTold 17 = .ok (.iload_n 3, 1) := by decide +kernel
theorem dX4_numberTold_18 : decode cX4_numberTold 18 = .ok (.aload_n 0, 1) := by decide +kernel
theorem dX4_numberTold_19 : decode cX4_numberTold 19 = .ok (.getfield 25, 3) := by decide +kernel
theorem dX4_numberTold_22 : decode cX4_numberTold 22 = .ok (.if_icmp .ge 31, 3) := by decide +kernel
theorem dX4_numberTold_25 : decode cX4_numberTold 25 = .ok (.iload_n 2, 1) := by decide +kernel
theorem dX4_numberTold_26 : decode cX4_numberTold 26 = .ok (.bipush 10, 2) := by decide +kernel
theorem dX4_numberTold_28 : decode cX4_numberTold 28 = .ok (.imul, 1) := by decide +kernel
theorem dX4_numberTold_29 : decode cX4_numberTold 29 = .ok (.aload_n 0, 1) := by decide +kernel
theorem dX4_numberTold_30 : decode cX4_numberTold 30 = .ok (.getfield 15, 3) := by decide +kernel
theorem dX4_numberTold_33 : decode cX4_numberTold 33 = .ok (.iload_n 3, 1) := by decide +kernel
theorem dX4_numberTold_34 : decode cX4_numberTold 34 = .ok (.iaload, 1) := by decide +kernel
theorem dX4_numberTold_35 : decode cX4_numberTold 35 = .ok (.iadd, 1) := by decide +kernel
theorem dX4_numberTold_36 : decode cX4_numberTold 36 = .ok (.bipush 48, 2) := by decide +kernel
theorem dX4_numberTold_38 : decode cX4_numberTold 38 = .ok (.isub, 1) := by decide +kernel
theorem dX4_numberTold_39 : decode cX4_numberTold 39 = .ok (.istore_n 2, 1) := by decide +kernel
theorem dX4_numberTold_40 : decode cX4_numberTold 40 = .ok (.iload_n 2, 1) := by decide +kernel
theorem dX4_numberTold_41 : decode cX4_numberTold 41 = .ok (.iload_n 1, 1) := by decide +kernel
theorem dX4_numberTold_42 : decode cX4_numberTold 42 = .ok (.if_icmp .le 5, 3) := by decide +kernel
theorem dX4_numberTold_45 : decode cX4_numberTold 45 = .ok (.iconst (-1), 1) := by decide +kernel
theorem dX4_numberTold_46 : decode cX4_numberTold 46 = .ok (.ireturn, 1) := by decide +kernel
theorem dX4_numberTold_47 : decode cX4_numberTold 47 = .ok (.iinc 3 1, 3) := by decide +kernel
theorem dX4_numberTold_50 : decode cX4_numberTold 50 = .ok (.goto (-33), 3) := by decide +kernel
theorem dX4_numberTold_53 : decode cX4_numberTold 53 = .ok (.iload_n 2, 1) := by decide +kernel
theorem dX4_numberTold_54 : decode cX4_numberTold 54 = .ok (.ireturn, 1) := by decide +kernel
end
section
theorem dX5_init_0 : decode cX5_init 0 = .ok (.aload_n 0, 1) := by decide +kernel
theorem dX5_init_1 : decode cX5_init 1 = .ok (.invokespecial 1, 3) := by decide +kernel
theorem dX5_init_4 : decode cX5_init 4 = .ok (.aload_n 0, 1) := by decide +kernel
theorem dX5_init_5 : decode cX5_init 5 = .ok (.new 7, 3) := by decide +kernel
theorem dX5_init_8 : decode cX5_init 8 = .ok (.dup, 1) := by decide +kernel
theorem dX5_init_9 : decode cX5_init 9 = .ok (.invokespecial 9, 3) := by decide +kernel
theorem dX5_init_12 : decode cX5_init 12 = .ok (.putfield 10, 3) := by decide +kernel
theorem dX5_init_15 : decode cX5_init 15 = .ok (.aload_n 0, 1) := by decide +kernel
theorem dX5_init_16 : decode cX5_init 16 = .ok (.new 7, 3) := by decide +kernel
theorem dX5_init_19 : decode cX5_init 19 = .ok (.dup, 1) := by decide +kernel
theorem dX5_init_20 : decode cX5_init 20 = .ok (.invokespecial 9, 3) := by decide +kernel
theorem dX5_init_23 : decode cX5_init 23 = .ok (.putfield 16, 3) := by decide +kernel
theorem dX5_init_26 : decode cX5_init 26 = .ok (.aload_n 0, 1) := by decide +kernel
theorem dX5_init_27 : decode cX5_init 27 = .ok (.new 7, 3) := by decide +kernel
theorem dX5_init_30 : decode cX5_init 30 = .ok (.dup, 1) := by decide +kernel
theorem dX5_init_31 : decode cX5_init 31 = .ok (.invokespecial 9, 3) := by decide +kernel
theorem dX5_init_34 : decode cX5_init 34 = .ok (.putfield 19, 3) := by decide +kernel
theorem dX5_init_37 : decode cX5_init 37 = .ok (.aload_n 0, 1) := by decide +kernel
theorem dX5_init_38 : decode cX5_init 38 = .ok (.iconst 0, 1) := by decide +kernel
theorem dX5_init_39 : decode cX5_init 39 = .ok (.putfield 22, 3) := by decide +kernel
theorem dX5_init_42 : decode cX5_init 42 = .ok (.aload_n 0, 1) := by decide +kernel
theorem dX5_init_43 : decode cX5_init 43 = .ok (.new 26, 3) := by decide +kernel
theorem dX5_init_46 : decode cX5_init 46 = .ok (.dup, 1) := by decide +kernel
theorem dX5_init_47 : decode cX5_init 47 = .ok (.invokespecial 28, 3) := by decide +kernel
theorem dX5_init_50 : decode cX5_init 50 = .ok (.putfield 29, 3) := by decide +kernel
theorem dX5_init_53 : decode cX5_init 53 = .ok (.aload_n 0, 1) := by decide +kernel
theorem dX5_init_54 : decode cX5_init 54 = .ok (.new 33, 3) := by decide +kernel
theorem dX5_init_57 : decode cX5_init 57 = .ok (.dup, 1) := by decide +kernel
theorem dX5_init_58 : decode cX5_init 58 = .ok (.invokespecial 35, 3) := by decide +kernel
theorem dX5_init_61 : decode cX5_init 61 = .ok (.putfield 36, 3) := by decide +kernel
theorem dX5_init_64 : decode cX5_init 64 = .ok (.aload_n 0, 1) := by decide +kernel
theorem dX5_init_65 : decode cX5_init 65 = .ok (.new 40, 3) := by decide +kernel
theorem dX5_init_68 : decode cX5_init 68 = .ok (.dup, 1) := by decide +kernel
theorem dX5_init_69 : decode cX5_init 69 = .ok (.invokespecial 42, 3) := by decide +kernel
theorem dX5_init_72 : decode cX5_init 72 = .ok (.putfield 43, 3) := by decide +kernel
theorem dX5_init_75 : decode cX5_init 75 = .ok (.aload_n 0, 1) := by decide +kernel
theorem dX5_init_76 : decode cX5_init 76 = .ok (.iconst 4, 1) := by decide +kernel
theorem dX5_init_77 : decode cX5_init 77 = .ok (.anewarray 47, 3) := by decide +kernel
theorem dX5_init_80 : decode cX5_init 80 = .ok (.putfield 49, 3) := by decide +kernel
theorem dX5_init_83 : decode cX5_init 83 = .ok (.aload_n 0, 1) := by decide +kernel
theorem dX5_init_84 : decode cX5_init 84 = .ok (.bipush 7, 2) := by decide +kernel
theorem dX5_init_86 : decode cX5_init 86 = .ok (.newarray .int, 2) := by decide +kernel
theorem dX5_init_88 : decode cX5_init 88 = .ok (.putfield 53, 3) := by decide +kernel
theorem dX5_init_91 : decode cX5_init 91 = .ok (.iconst 0, 1) := by decide +kernel
theorem dX5_init_92 : decode cX5_init 92 = .ok (.istore_n 1, 1) := by decide +kernel
theorem dX5_init_93 : decode cX5_init 93 = .ok (.iload_n 1, 1) := by decide +kernel
theorem dX5_init_94 : decode cX5_init 94 = .ok (.iconst 4, 1) := by decide +kernel
theorem dX5_init_95 : decode cX5_init 95 = .ok (.if_icmp .ge 22, 3) := by decide +kernel
theorem dX5_init_98 : decode cX5_init 98 = .ok (.aload_n 0, 1) := by decide +kernel
theorem dX5_init_99 : decode cX5_init 99 = .ok (.getfield 49, 3) := by decide +kernel
theorem dX5_init_102 : decode cX5_init 102 = .ok (.iload_n 1, 1) := by decide +kernel
theorem dX5_init_103 : decode cX5_init 103 = .ok (.new 47, 3) := by decide +kernel
theorem dX5_init_106 : decode cX5_init 106 = .ok (.dup, 1) := by decide +kernel
theorem dX5_init_107 : decode cX5_init 107 = .ok (.invokespecial 57, 3) := by decide +kernel
theorem dX5_init_110 : decode cX5_init 110 = .ok (.aastore, 1) := by decide +kernel
theorem dX5_init_111 : decode cX5_init 111 = .ok (.iinc 1 1, 3) := by decide +kernel
theorem dX5_init_114 : decode cX5_init 114 = .ok (.goto (-21), 3) := by decide +kernel
theorem dX5_init_117 : decode cX5_init 117 = .ok (.return_, 1) := by decide +kernel
theorem dX5_letter_0 : decode cX5_letter 0 = .ok (.iload_n 1, 1) := by decide +kernel
theorem dX5_letter_1 : decode cX5_letter 1 = .ok (.invokestatic 58, 3) := by decide +kernel
theorem dX5_letter_4 : decode cX5_letter 4 = .ok (.ifCond .eq 31, 3) := by decide +kernel
theorem dX5_letter_7 : decode cX5_letter 7 = .ok (.iload_n 2, 1) := by decide +kernel
theorem dX5_letter_8 : decode cX5_letter 8 = .ok (.iload_n 3, 1) := by decide +kernel
theorem dX5_letter_9 : decode cX5_letter 9 = .ok (.invokestatic 62, 3) := by decide +kernel
theorem dX5_letter_12 : decode cX5_letter 12 = .ok (.ifCond .eq 23, 3) := by decide +kernel
theorem dX5_letter_15 : decode cX5_letter 15 = .ok (.iload 4, 2) := by decide +kernel
theorem dX5_letter_17 : decode cX5_letter 17 = .ok (.invokestatic 66, 3) := by decide +kernel
theorem dX5_letter_20 : decode cX5_letter 20 = .ok (.ifCond .eq 15, 3) := by decide +kernel
theorem dX5_letter_23 : decode cX5_letter 23 = .ok (.iload 5, 2) := by decide +kernel
theorem dX5_letter_25 : decode cX5_letter 25 = .ok (.iconst 0, 1) := by decide +kernel
theorem dX5_letter_26 : decode cX5_letter 26 = .ok (.sipush 999, 3) := by decide +kernel
theorem dX5_letter_29 : decode cX5_letter 29 = .ok (.invokestatic 69, 3) := by decide +kernel
theorem dX5_letter_32 : decode cX5_letter 32 = .ok (.ifCond .ne 9, 3) := by decide +kernel
theorem dX5_letter_35 : decode cX5_letter 35 = .ok (.aload_n 0, 1) := by decide +kernel
theorem dX5_letter_36 : decode cX5_letter 36 = .ok (.iconst 0, 1) := by decide +kernel
theorem dX5_letter_37 : decode cX5_letter 37 = .ok (.invokevirtual 73, 3) := by decide +kernel
theorem dX5_letter_40 : decode cX5_letter 40 = .ok (.ireturn, 1) := by decide +kernel
theorem dX5_letter_41 : decode cX5_letter 41 = .ok (.aload_n 0, 1) := by decide +kernel
theorem dX5_letter_42 : decode cX5_letter 42 = .ok (.getfield 10, 3) := by decide +kernel
theorem dX5_letter_45 : decode cX5_letter 45 = .ok (.getfield 77, 3) := by decide +kernel
theorem dX5_letter_48 : decode cX5_letter 48 = .ok (.bipush 8, 2) := by decide +kernel
theorem dX5_letter_50 : decode cX5_letter 50 = .ok (.if_icmp .lt 9, 3) := by decide +kernel
theorem dX5_letter_53 : decode cX5_letter 53 = .ok (.aload_n 0, 1) := by decide +kernel
theorem dX5_letter_54 : decode cX5_letter 54 = .ok (.iconst 1, 1) := by decide +kernel
theorem dX5_letter_55 : decode cX5_letter 55 = .ok (.invokevirtual 73, 3) := by decide +kernel
theorem dX5_letter_58 : decode cX5_letter 58 = .ok (.ireturn, 1) := by decide +kernel
theorem dX5_letter_59 : decode cX5_letter 59 = .ok (.aload_n 0, 1) := by decide +kernel
theorem dX5_letter_60 : decode cX5_letter 60 = .ok (.getfield 10, 3) := by decide +kernel
theorem dX5_letter_63 : decode cX5_letter 63 = .ok (.iload_n 1, 1) := by decide +kernel
theorem dX5_letter_64 : decode cX5_letter 64 = .ok (.iload_n 2, 1) := by decide +kernel
theorem dX5_letter_65 : decode cX5_letter 65 = .ok (.iload_n 3, 1) := by decide +kernel
theorem dX5_letter_66 : decode cX5_letter 66 = .ok (.iload 4, 2) := by decide +kernel
theorem dX5_letter_68 : decode cX5_letter 68 = .ok (.iload 5, 2) := by decide +kernel
theorem dX5_letter_70 : decode cX5_letter 70 = .ok (.invokevirtual 81, 3) := by decide +kernel
theorem dX5_letter_73 : decode cX5_letter 73 = .ok (.ireturn, 1) := by decide +kernel
theorem dX5_of_0 : decode cX5_of 0 = .ok (.aload_n 0, 1) := by decide +kernel
theorem dX5_of_1 : decode cX5_of 1 = .ok (.getfield 10, 3) := by decide +kernel
theorem dX5_of_4 : decode cX5_of 4 = .ok (.iload_n 1, 1) := by decide +kernel
theorem dX5_of_5 : decode cX5_of 5 = .ok (.invokevirtual 85, 3) := by decide +kernel
theorem dX5_of_8 : decode cX5_of 8 = .ok (.ifCond .eq 13, 3) := by decide +kernel
theorem dX5_of_11 : decode cX5_of 11 = .ok (.iload_n 2, 1) := by decide +kernel
theorem dX5_of_12 : decode cX5_of 12 = .ok (.iconst 0, 1) := by decide +kernel
theorem dX5_of_13 : decode cX5_of 13 = .ok (.bipush 9, 2) := by decide +kernel
theorem dX5_of_15 : decode cX5_of 15 = .ok (.invokestatic 69, 3) := by decide +kernel
theorem dX5_of_18 : decode cX5_of 18 = .ok (.ifCond .ne 9, 3) := by decide +kernel
theorem dX5_of_21 : decode cX5_of 21 = .ok (.aload_n 0, 1) := by decide +kernel
theorem dX5_of_22 : decode cX5_of 22 = .ok (.iconst 0, 1) := by decide +kernel
theorem dX5_of_23 : decode cX5_of 23 = .ok (.invokevirtual 73, 3) := by decide +kernel
theorem dX5_of_26 : decode cX5_of 26 = .ok (.ireturn, 1) := by decide +kernel
theorem dX5_of_27 : decode cX5_of 27 = .ok (.aload_n 0, 1) := by decide +kernel
theorem dX5_of_28 : decode cX5_of 28 = .ok (.getfield 10, 3) := by decide +kernel
theorem dX5_of_31 : decode cX5_of 31 = .ok (.getfield 88, 3) := by decide +kernel
theorem dX5_of_34 : decode cX5_of 34 = .ok (.iload_n 1, 1) := by decide +kernel
theorem dX5_of_35 : decode cX5_of 35 = .ok (.aaload, 1) := by decide +kernel
theorem dX5_of_36 : decode cX5_of 36 = .ok (.astore_n 3, 1) := by decide +kernel
theorem dX5_of_37 : decode cX5_of 37 = .ok (.iload_n 2, 1) := by decide +kernel
theorem dX5_of_38 : decode cX5_of 38 = .ok (.tableswitch 90 6 9 #[30, 42, 54, 66], 30) := by decide +kernel
theorem dX5_of_68 : decode cX5_of 68 = .ok (.aload_n 3, 1) := by decide +kernel
theorem dX5_of_69 : decode cX5_of 69 = .ok (.aload_n 0, 1) := by decide +kernel
theorem dX5_of_70 : decode cX5_of 70 = .ok (.getfield 10, 3) := by decide +kernel
theorem dX5_of_73 : decode cX5_of 73 = .ok (.getfield 92, 3) := by decide +kernel
theorem dX5_of_76 : decode cX5_of 76 = .ok (.invokevirtual 95, 3) := by decide +kernel
theorem dX5_of_79 : decode cX5_of 79 = .ok (.ireturn, 1) := by decide +kernel
theorem dX5_of_80 : decode cX5_of 80 = .ok (.aload_n 3, 1) := by decide +kernel
theorem dX5_of_81 : decode cX5_of 81 = .ok (.aload_n 0, 1) := by decide +kernel
theorem dX5_of_82 : decode cX5_of 82 = .ok (.getfield 10, 3) := by decide +kernel
theorem dX5_of_85 : decode cX5_of 85 = .ok (.getfield 92, 3) := by decide +kernel
theorem dX5_of_88 : decode cX5_of 88 = .ok (.invokevirtual 98, 3) := by decide +kernel
theorem dX5_of_91 : decode cX5_of 91 = .ok (.ireturn, 1) := by decide +kernel
theorem dX5_of_92 : decode cX5_of 92 = .ok (.aload_n 3, 1) := by decide +kernel
theorem dX5_of_93 : decode cX5_of 93 = .ok (.aload_n 0, 1) := by decide +kernel
theorem dX5_of_94 : decode cX5_of 94 = .ok (.getfield 10, 3) := by decide +kernel
theorem dX5_of_97 : decode cX5_of 97 = .ok (.getfield 101, 3) := by decide +kernel
theorem dX5_of_100 : decode cX5_of 100 = .ok (.invokevirtual 104, 3) := by decide +kernel
theorem dX5_of_103 : decode cX5_of 103 = .ok (.ireturn, 1) := by decide +kernel
theorem dX5_of_104 : decode cX5_of 104 = .ok (.aload_n 0, 1) := by decide +kernel
theorem dX5_of_105 : decode cX5_of 105 = .ok (.getfield 10, 3) := by decide +kernel
theorem dX5_of_108 : decode cX5_of 108 = .ok (.aload_n 3, 1) := by decide +kernel
theorem dX5_of_109 : decode cX5_of 109 = .ok (.aload_n 0, 1) := by decide +kernel
theorem dX5_of_110 : decode cX5_of 110 = .ok (.getfield 10, 3) := by decide +kernel
theorem dX5_of_113 : decode cX5_of 113 = .ok (.getfield 107, 3) := by decide +kernel
theorem dX5_of_116 : decode cX5_of 116 = .ok (.invokevirtual 110, 3) := by decide +kernel
theorem dX5_of_119 : decode cX5_of 119 = .ok (.ifCond .eq 7, 3) := by decide +kernel
theorem dX5_of_122 : decode cX5_of 122 = .ok (.iconst 1, 1) := by decide +kernel
theorem dX5_of_123 : decode cX5_of 123 = .ok (.goto 4, 3) := by decide +kernel
theorem dX5_of_126 : decode cX5_of 126 = .ok (.iconst 0, 1) := by decide +kernel
theorem dX5_of_127 : decode cX5_of 127 = .ok (.ireturn, 1) := by decide +kernel
theorem dX5_of_128 : decode cX5_of 128 = .ok (.aload_n 3, 1) := by decide +kernel
theorem dX5_of_129 : decode cX5_of 129 = .ok (.iload_n 2, 1) := by decide +kernel
theorem dX5_of_130 : decode cX5_of 130 = .ok (.invokevirtual 114, 3) := by decide +kernel
theorem dX5_of_133 : decode cX5_of 133 = .ok (.ireturn, 1) := by decide +kernel
theorem dX5_change_0 : decode cX5_change 0 = .ok (.aload_n 0, 1) := by decide +kernel
theorem dX5_change_1 : decode cX5_change 1 = .ok (.getfield 10, 3) := by decide +kernel
theorem dX5_change_4 : decode cX5_change 4 = .ok (.iload_n 1, 1) := by decide +kernel
theorem dX5_change_5 : decode cX5_change 5 = .ok (.invokevirtual 85, 3) := by decide +kernel
theorem dX5_change_8 : decode cX5_change 8 = .ok (.ifCond .eq 20, 3) := by decide +kernel
theorem dX5_change_11 : decode cX5_change 11 = .ok (.aload_n 0, 1) := by decide +kernel
theorem dX5_change_12 : decode cX5_change 12 = .ok (.getfield 10, 3) := by decide +kernel
theorem dX5_change_15 : decode cX5_change 15 = .ok (.getfield 88, 3) := by decide +kernel
theorem dX5_change_18 : decode cX5_change 18 = .ok (.iload_n 1, 1) := by decide +kernel
theorem dX5_change_19 : decode cX5_change 19 = .ok (.aaload, 1) := by decide +kernel
theorem dX5_change_20 : decode cX5_change 20 = .ok (.iload_n 2, 1) := by decide +kernel
theorem dX5_change_21 : decode cX5_change 21 = .ok (.iload_n 3, 1) := by decide +kernel
theorem dX5_change_22 : decode cX5_change 22 = .ok (.invokestatic 117, 3) := by decide +kernel
theorem dX5_change_25 : decode cX5_change 25 = .ok (.ifCond .ne 9, 3) := by decide +kernel
theorem dX5_change_28 : decode cX5_change 28 = .ok (.aload_n 0, 1) := by decide +kernel
theorem dX5_change_29 : decode cX5_change 29 = .ok (.iconst 0, 1) := by decide +kernel
theorem dX5_change_30 : decode cX5_change 30 = .ok (.invokevirtual 73, 3) := by decide +kernel
theorem dX5_change_33 : decode cX5_change 33 = .ok (.ireturn, 1) := by decide +kernel
theorem dX5_change_34 : decode cX5_change 34 = .ok (.aload_n 0, 1) := by decide +kernel
theorem dX5_change_35 : decode cX5_change 35 = .ok (.getfield 10, 3) := by decide +kernel
theorem dX5_change_38 : decode cX5_change 38 = .ok (.getfield 88, 3) := by decide +kernel
theorem dX5_change_41 : decode cX5_change 41 = .ok (.iload_n 1, 1) := by decide +kernel
theorem dX5_change_42 : decode cX5_change 42 = .ok (.aaload, 1) := by decide +kernel
theorem dX5_change_43 : decode cX5_change 43 = .ok (.iload_n 2, 1) := by decide +kernel
theorem dX5_change_44 : decode cX5_change 44 = .ok (.invokevirtual 114, 3) := by decide +kernel
theorem dX5_change_47 : decode cX5_change 47 = .ok (.istore 4, 2) := by decide +kernel
theorem dX5_change_49 : decode cX5_change 49 = .ok (.aload_n 0, 1) := by decide +kernel
theorem dX5_change_50 : decode cX5_change 50 = .ok (.getfield 10, 3) := by decide +kernel
theorem dX5_change_53 : decode cX5_change 53 = .ok (.getfield 88, 3) := by decide +kernel
theorem dX5_change_56 : decode cX5_change 56 = .ok (.iload_n 1, 1) := by decide +kernel
theorem dX5_change_57 : decode cX5_change 57 = .ok (.aaload, 1) := by decide +kernel
theorem dX5_change_58 : decode cX5_change 58 = .ok (.iload_n 2, 1) := by decide +kernel
theorem dX5_change_59 : decode cX5_change 59 = .ok (.iload_n 3, 1) := by decide +kernel
theorem dX5_change_60 : decode cX5_change 60 = .ok (.invokevirtual 121, 3) := by decide +kernel
theorem dX5_change_63 : decode cX5_change 63 = .ok (.iload 4, 2) := by decide +kernel
theorem dX5_change_65 : decode cX5_change 65 = .ok (.ireturn, 1) := by decide +kernel
theorem dX5_law_0 : decode cX5_law 0 = .ok (.iload_n 1, 1) := by decide +kernel
theorem dX5_law_1 : decode cX5_law 1 = .ok (.iconst 0, 1) := by decide +kernel
theorem dX5_law_2 : decode cX5_law 2 = .ok (.iconst 1, 1) := by decide +kernel
theorem dX5_law_3 : decode cX5_law 3 = .ok (.invokestatic 69, 3) := by decide +kernel
theorem dX5_law_6 : decode cX5_law 6 = .ok (.ifCond .eq 13, 3) := by decide +kernel
theorem dX5_law_9 : decode cX5_law 9 = .ok (.iload_n 2, 1) := by decide +kernel
theorem dX5_law_10 : decode cX5_law 10 = .ok (.iconst 0, 1) := by decide +kernel
theorem dX5_law_11 : decode cX5_law 11 = .ok (.bipush 9, 2) := by decide +kernel
theorem dX5_law_13 : decode cX5_law 13 = .ok (.invokestatic 69, 3) := by decide +kernel
theorem dX5_law_16 : decode cX5_law 16 = .ok (.ifCond .ne 9, 3) := by decide +kernel
theorem dX5_law_19 : decode cX5_law 19 = .ok (.aload_n 0, 1) := by decide +kernel
theorem dX5_law_20 : decode cX5_law 20 = .ok (.iconst 0, 1) := by decide +kernel
theorem dX5_law_21 : decode cX5_law 21 = .ok (.invokevirtual 73, 3) := by decide +kernel
theorem dX5_law_24 : decode cX5_law 24 = .ok (.ireturn, 1) := by decide +kernel
theorem dX5_law_25 : decode cX5_law 25 = .ok (.iload_n 1, 1) := by decide +kernel
theorem dX5_law_26 : decode cX5_law 26 = .ok (.ifCond .ne 22, 3) := by decide +kernel
theorem dX5_law_29 : decode cX5_law 29 = .ok (.aload_n 0, 1) := by decide +kernel
theorem dX5_law_30 : decode cX5_law 30 = .ok (.getfield 10, 3) := by decide +kernel
theorem dX5_law_33 : decode cX5_law 33 = .ok (.getfield 92, 3) := by decide +kernel
theorem dX5_law_36 : decode cX5_law 36 = .ok (.istore_n 3, 1) := by decide +kernel
theorem dX5_law_37 : decode cX5_law 37 = .ok (.aload_n 0, 1) := by decide +kernel
theorem dX5_law_38 : decode cX5_law 38 = .ok (.getfield 10, 3) := by decide +kernel
theorem dX5_law_41 : decode cX5_law 41 = .ok (.iload_n 2, 1) := by decide +kernel
theorem dX5_law_42 : decode cX5_law 42 = .ok (.putfield 92, 3) := by decide +kernel
theorem dX5_law_45 : decode cX5_law 45 = .ok (.goto 19, 3) := by decide +kernel
theorem dX5_law_48 : decode cX5_law 48 = .ok (.aload_n 0, 1) := by decide +kernel
theorem dX5_law_49 : decode cX5_law 49 = .ok (.getfield 10, 3) := by decide +kernel
theorem dX5_law_52 : decode cX5_law 52 = .ok (.getfield 101, 3) := by decide +kernel
theorem dX5_law_55 : decode cX5_law 55 = .ok (.istore_n 3, 1) := by decide +kernel
theorem dX5_law_56 : decode cX5_law 56 = .ok (.aload_n 0, 1) := by decide +kernel
theorem dX5_law_57 : decode cX5_law 57 = .ok (.getfield 10, 3) := by decide +kernel
theorem dX5_law_60 : decode cX5_law 60 = .ok (.iload_n 2, 1) := by decide +kernel
theorem dX5_law_61 : decode cX5_law 61 = .ok (.putfield 101, 3) := by decide +kernel
theorem dX5_law_64 : decode cX5_law 64 = .ok (.iload_n 3, 1) := by decide +kernel
theorem dX5_law_65 : decode cX5_law 65 = .ok (.ireturn, 1) := by decide +kernel
theorem dX5_go_0 : decode cX5_go 0 = .ok (.iload_n 1, 1) := by decide +kernel
theorem dX5_go_1 : decode cX5_go 1 = .ok (.iconst 1, 1) := by decide +kernel
theorem dX5_go_2 : decode cX5_go 2 = .ok (.sipush 200, 3) := by decide +kernel
theorem dX5_go_5 : decode cX5_go 5 = .ok (.invokestatic 69, 3) := by decide +kernel
theorem dX5_go_8 : decode cX5_go 8 = .ok (.ifCond .ne 9, 3) := by decide +kernel
theorem dX5_go_11 : decode cX5_go 11 = .ok (.aload_n 0, 1) := by decide +kernel
theorem dX5_go_12 : decode cX5_go 12 = .ok (.iconst 0, 1) := by decide +kernel
theorem dX5_go_13 : decode cX5_go 13 = .ok (.invokevirtual 73, 3) := by decide +kernel
theorem dX5_go_16 : decode cX5_go 16 = .ok (.ireturn, 1) := by decide +kernel
theorem dX5_go_17 : decode cX5_go 17 = .ok (.aload_n 0, 1) := by decide +kernel
theorem dX5_go_18 : decode cX5_go 18 = .ok (.getfield 10, 3) := by decide +kernel
theorem dX5_go_21 : decode cX5_go 21 = .ok (.getfield 107, 3) := by decide +kernel
theorem dX5_go_24 : decode cX5_go 24 = .ok (.iload_n 1, 1) := by decide +kernel
theorem dX5_go_25 : decode cX5_go 25 = .ok (.iadd, 1) := by decide +kernel
theorem dX5_go_26 : decode cX5_go 26 = .ok (.ldc 125, 2) := by decide +kernel
theorem dX5_go_28 : decode cX5_go 28 = .ok (.if_icmp .le 9, 3) := by decide +kernel
theorem dX5_go_31 : decode cX5_go 31 = .ok (.aload_n 0, 1) := by decide +kernel
theorem dX5_go_32 : decode cX5_go 32 = .ok (.iconst 4, 1) := by decide +kernel
theorem dX5_go_33 : decode cX5_go 33 = .ok (.invokevirtual 73, 3) := by decide +kernel
theorem dX5_go_36 : decode cX5_go 36 = .ok (.ireturn, 1) := by decide +kernel
theorem dX5_go_37 : decode cX5_go 37 = .ok (.aload_n 0, 1) := by decide +kernel
theorem dX5_go_38 : decode cX5_go 38 = .ok (.getfield 10, 3) := by decide +kernel
theorem dX5_go_41 : decode cX5_go 41 = .ok (.dup, 1) := by decide +kernel
theorem dX5_go_42 : decode cX5_go 42 = .ok (.getfield 107, 3) := by decide +kernel
theorem dX5_go_45 : decode cX5_go 45 = .ok (.iload_n 1, 1) := by decide +kernel
theorem dX5_go_46 : decode cX5_go 46 = .ok (.iadd, 1) := by decide +kernel
theorem dX5_go_47 : decode cX5_go 47 = .ok (.putfield 107, 3) := by decide +kernel
theorem dX5_go_50 : decode cX5_go 50 = .ok (.aload_n 0, 1) := by decide +kernel
theorem dX5_go_51 : decode cX5_go 51 = .ok (.invokevirtual 126, 3) := by decide +kernel
theorem dX5_go_54 : decode cX5_go 54 = .ok (.ireturn, 1) := by decide +kernel
theorem dX5_now_0 : decode cX5_now 0 = .ok (.iload_n 1, 1) := by decide +kernel
theorem dX5_now_1 : decode cX5_now 1 = .ok (.tableswitch 84 0 5 #[39, 47, 52, 60, 68, 76], 39) := by decide +kernel
theorem dX5_now_40 : decode cX5_now 40 = .ok (.aload_n 0, 1) := by decide +kernel
theorem dX5_now_41 : decode cX5_now 41 = .ok (.getfield 10, 3) := by decide +kernel
theorem dX5_now_44 : decode cX5_now 44 = .ok (.getfield 107, 3) := by decide +kernel
theorem dX5_now_47 : decode cX5_now 47 = .ok (.ireturn, 1) := by decide +kernel
theorem dX5_now_48 : decode cX5_now 48 = .ok (.aload_n 0, 1) := by decide +kernel
theorem dX5_now_49 : decode cX5_now 49 = .ok (.invokevirtual 126, 3) := by decide +kernel
theorem dX5_now_52 : decode cX5_now 52 = .ok (.ireturn, 1) := by decide +kernel
theorem dX5_now_53 : decode cX5_now 53 = .ok (.aload_n 0, 1) := by decide +kernel
theorem dX5_now_54 : decode cX5_now 54 = .ok (.getfield 10, 3) := by decide +kernel
theorem dX5_now_57 : decode cX5_now 57 = .ok (.invokevirtual 130, 3) := by decide +kernel
theorem dX5_now_60 : decode cX5_now 60 = .ok (.ireturn, 1) := by decide +kernel
theorem dX5_now_61 : decode cX5_now 61 = .ok (.aload_n 0, 1) := by decide +kernel
theorem dX5_now_62 : decode cX5_now 62 = .ok (.getfield 10, 3) := by decide +kernel
theorem dX5_now_65 : decode cX5_now 65 = .ok (.invokevirtual 133, 3) := by decide +kernel
theorem dX5_now_68 : decode cX5_now 68 = .ok (.ireturn, 1) := by decide +kernel
theorem dX5_now_69 : decode cX5_now 69 = .ok (.aload_n 0, 1) := by decide +kernel
theorem dX5_now_70 : decode cX5_now 70 = .ok (.getfield 10, 3) := by decide +kernel
theorem dX5_now_73 : decode cX5_now 73 = .ok (.getfield 92, 3) := by decide +kernel
theorem dX5_now_76 : decode cX5_now 76 = .ok (.ireturn, 1) := by decide +kernel
theorem dX5_now_77 : decode cX5_now 77 = .ok (.aload_n 0, 1) := by decide +kernel
theorem dX5_now_78 : decode cX5_now 78 = .ok (.getfield 10, 3) := by decide +kernel
theorem dX5_now_81 : decode cX5_now 81 = .ok (.getfield 101, 3) := by decide +kernel
theorem dX5_now_84 : decode cX5_now 84 = .ok (.ireturn, 1) := by decide +kernel
theorem dX5_now_85 : decode cX5_now 85 = .ok (.aload_n 0, 1) := by decide +kernel
theorem dX5_now_86 : decode cX5_now 86 = .ok (.iconst 0, 1) := by decide +kernel
theorem dX5_now_87 : decode cX5_now 87 = .ok (.invokevirtual 73, 3) := by decide +kernel
theorem dX5_now_90 : decode cX5_now 90 = .ok (.ireturn, 1) := by decide +kernel
theorem dX5_fits_0 : decode cX5_fits 0 = .ok (.aload_n 0, 1) := by decide +kernel
theorem dX5_fits_1 : decode cX5_fits 1 = .ok (.aload_n 0, 1) := by decide +kernel
theorem dX5_fits_2 : decode cX5_fits 2 = .ok (.invokevirtual 126, 3) := by decide +kernel
theorem dX5_fits_5 : decode cX5_fits 5 = .ok (.invokevirtual 136, 3) := by decide +kernel
theorem dX5_fits_8 : decode cX5_fits 8 = .ok (.ifCond .eq 7, 3) := by decide +kernel
theorem dX5_fits_11 : decode cX5_fits 11 = .ok (.iconst 1, 1) := by decide +kernel
theorem dX5_fits_12 : decode cX5_fits 12 = .ok (.goto 4, 3) := by decide +kernel
theorem dX5_fits_15 : decode cX5_fits 15 = .ok (.iconst 0, 1) := by decide +kernel
theorem dX5_fits_16 : decode cX5_fits 16 = .ok (.ireturn, 1) := by decide +kernel
theorem dX5_span_0 : decode cX5_span 0 = .ok (.iload_n 1, 1) := by decide +kernel
theorem dX5_span_1 : decode cX5_span 1 = .ok (.iload_n 2, 1) := by decide +kernel
theorem dX5_span_2 : decode cX5_span 2 = .ok (.invokestatic 62, 3) := by decide +kernel
theorem dX5_span_5 : decode cX5_span 5 = .ok (.ifCond .eq 12, 3) := by decide +kernel
theorem dX5_span_8 : decode cX5_span 8 = .ok (.iload_n 3, 1) := by decide +kernel
theorem dX5_span_9 : decode cX5_span 9 = .ok (.iconst 0, 1) := by decide +kernel
theorem dX5_span_10 : decode cX5_span 10 = .ok (.iconst 2, 1) := by decide +kernel
theorem dX5_span_11 : decode cX5_span 11 = .ok (.invokestatic 69, 3) := by decide +kernel
theorem dX5_span_14 : decode cX5_span 14 = .ok (.ifCond .ne 9, 3) := by decide +kernel
theorem dX5_span_17 : decode cX5_span 17 = .ok (.aload_n 0, 1) := by decide +kernel
theorem dX5_span_18 : decode cX5_span 18 = .ok (.iconst 0, 1) := by decide +kernel
theorem dX5_span_19 : decode cX5_span 19 = .ok (.invokevirtual 73, 3) := by decide +kernel
theorem dX5_span_22 : decode cX5_span 22 = .ok (.ireturn, 1) := by decide +kernel
theorem dX5_span_23 : decode cX5_span 23 = .ok (.aload_n 0, 1) := by decide +kernel
theorem dX5_span_24 : decode cX5_span 24 = .ok (.aload_n 0, 1) := by decide +kernel
theorem dX5_span_25 : decode cX5_span 25 = .ok (.invokevirtual 126, 3) := by decide +kernel
theorem dX5_span_28 : decode cX5_span 28 = .ok (.invokevirtual 136, 3) := by decide +kernel
theorem dX5_span_31 : decode cX5_span 31 = .ok (.ifCond .ne 9, 3) := by decide +kernel
theorem dX5_span_34 : decode cX5_span 34 = .ok (.aload_n 0, 1) := by decide +kernel
theorem dX5_span_35 : decode cX5_span 35 = .ok (.iconst 3, 1) := by decide +kernel
theorem dX5_span_36 : decode cX5_span 36 = .ok (.invokevirtual 73, 3) := by decide +kernel
theorem dX5_span_39 : decode cX5_span 39 = .ok (.ireturn, 1) := by decide +kernel
theorem dX5_span_40 : decode cX5_span 40 = .ok (.iload_n 3, 1) := by decide +kernel
theorem dX5_span_41 : decode cX5_span 41 = .ok (.ifCond .ne 13, 3) := by decide +kernel
theorem dX5_span_44 : decode cX5_span 44 = .ok (.aload_n 0, 1) := by decide +kernel
theorem dX5_span_45 : decode cX5_span 45 = .ok (.getfield 29, 3) := by decide +kernel
theorem dX5_span_48 : decode cX5_span 48 = .ok (.iload_n 1, 1) := by decide +kernel
theorem dX5_span_49 : decode cX5_span 49 = .ok (.iload_n 2, 1) := by decide +kernel
theorem dX5_span_50 : decode cX5_span 50 = .ok (.invokevirtual 139, 3) := by decide +kernel
theorem dX5_span_53 : decode cX5_span 53 = .ok (.ireturn, 1) := by decide +kernel
theorem dX5_span_54 : decode cX5_span 54 = .ok (.iload_n 3, 1) := by decide +kernel
theorem dX5_span_55 : decode cX5_span 55 = .ok (.iconst 1, 1) := by decide +kernel
theorem dX5_span_56 : decode cX5_span 56 = .ok (.if_icmp .ne 15, 3) := by decide +kernel
theorem dX5_span_59 : decode cX5_span 59 = .ok (.aload_n 0, 1) := by decide +kernel
theorem dX5_span_60 : decode cX5_span 60 = .ok (.getfield 29, 3) := by decide +kernel
theorem dX5_span_63 : decode cX5_span 63 = .ok (.iload_n 1, 1) := by decide +kernel
theorem dX5_span_64 : decode cX5_span 64 = .ok (.iload_n 2, 1) := by decide +kernel
theorem dX5_span_65 : decode cX5_span 65 = .ok (.invokevirtual 143, 3) := by decide +kernel
theorem dX5_span_68 : decode cX5_span 68 = .ok (.goto 12, 3) := by decide +kernel
theorem dX5_span_71 : decode cX5_span 71 = .ok (.aload_n 0, 1) := by decide +kernel
theorem dX5_span_72 : decode cX5_span 72 = .ok (.getfield 29, 3) := by decide +kernel
theorem dX5_span_75 : decode cX5_span 75 = .ok (.iload_n 1, 1) := by decide +kernel
theorem dX5_span_76 : decode cX5_span 76 = .ok (.iload_n 2, 1) := by decide +kernel
theorem dX5_span_77 : decode cX5_span 77 = .ok (.invokevirtual 146, 3) := by decide +kernel
theorem dX5_span_80 : decode cX5_span 80 = .ok (.ireturn, 1) := by decide +kernel
theorem dX5_sure_0 : decode cX5_sure 0 = .ok (.iload_n 1, 1) := by decide +kernel
theorem dX5_sure_1 : decode cX5_sure 1 = .ok (.invokestatic 149, 3) := by decide +kernel
theorem dX5_sure_4 : decode cX5_sure 4 = .ok (.ifCond .ne 9, 3) := by decide +kernel
theorem dX5_sure_7 : decode cX5_sure 7 = .ok (.aload_n 0, 1) := by decide +kernel
theorem dX5_sure_8 : decode cX5_sure 8 = .ok (.iconst 0, 1) := by decide +kernel
theorem dX5_sure_9 : decode cX5_sure 9 = .ok (.invokevirtual 73, 3) := by decide +kernel
theorem dX5_sure_12 : decode cX5_sure 12 = .ok (.ireturn, 1) := by decide +kernel
theorem dX5_sure_13 : decode cX5_sure 13 = .ok (.aload_n 0, 1) := by decide +kernel
theorem dX5_sure_14 : decode cX5_sure 14 = .ok (.aload_n 0, 1) := by decide +kernel
theorem dX5_sure_15 : decode cX5_sure 15 = .ok (.invokevirtual 126, 3) := by decide +kernel
theorem dX5_sure_18 : decode cX5_sure 18 = .ok (.invokevirtual 136, 3) := by decide +kernel
theorem dX5_sure_21 : decode cX5_sure 21 = .ok (.ifCond .ne 9, 3) := by decide +kernel
theorem dX5_sure_24 : decode cX5_sure 24 = .ok (.aload_n 0, 1) := by decide +kernel
theorem dX5_sure_25 : decode cX5_sure 25 = .ok (.iconst 3, 1) := by decide +kernel
theorem dX5_sure_26 : decode cX5_sure 26 = .ok (.invokevirtual 73, 3) := by decide +kernel
theorem dX5_sure_29 : decode cX5_sure 29 = .ok (.ireturn, 1) := by decide +kernel
theorem dX5_sure_30 : decode cX5_sure 30 = .ok (.iconst 0, 1) := by decide +kernel
theorem dX5_sure_31 : decode cX5_sure 31 = .ok (.istore_n 2, 1) := by decide +kernel
theorem dX5_sure_32 : decode cX5_sure 32 = .ok (.iconst 0, 1) := by decide +kernel
theorem dX5_sure_33 : decode cX5_sure 33 = .ok (.istore_n 3, 1) := by decide +kernel
theorem dX5_sure_34 : decode cX5_sure 34 = .ok (.iload_n 3, 1) := by decide +kernel
theorem dX5_sure_35 : decode cX5_sure 35 = .ok (.bipush 8, 2) := by decide +kernel
theorem dX5_sure_37 : decode cX5_sure 37 = .ok (.if_icmp .ge 28, 3) := by decide +kernel
theorem dX5_sure_40 : decode cX5_sure 40 = .ok (.aload_n 0, 1) := by decide +kernel
theorem dX5_sure_41 : decode cX5_sure 41 = .ok (.getfield 29, 3) := by decide +kernel
theorem dX5_sure_44 : decode cX5_sure 44 = .ok (.iload_n 1, 1) := by decide +kernel
theorem dX5_sure_45 : decode cX5_sure 45 = .ok (.iload_n 3, 1) := by decide +kernel
theorem dX5_sure_46 : decode cX5_sure 46 = .ok (.invokevirtual 146, 3) := by decide +kernel
theorem dX5_sure_49 : decode cX5_sure 49 = .ok (.iconst 1, 1) := by decide +kernel
theorem dX5_sure_50 : decode cX5_sure 50 = .ok (.if_icmp .ne 9, 3) := by decide +kernel
theorem dX5_sure_53 : decode cX5_sure 53 = .ok (.iload_n 2, 1) := by decide +kernel
theorem dX5_sure_54 : decode cX5_sure 54 = .ok (.iconst 1, 1) := by decide +kernel
theorem dX5_sure_55 : decode cX5_sure 55 = .ok (.iload_n 3, 1) := by decide +kernel
theorem dX5_sure_56 : decode cX5_sure 56 = .ok (.ishl, 1) := by decide +kernel
theorem dX5_sure_57 : decode cX5_sure 57 = .ok (.ior, 1) := by decide +kernel
theorem dX5_sure_58 : decode cX5_sure 58 = .ok (.istore_n 2, 1) := by decide +kernel
theorem dX5_sure_59 : decode cX5_sure 59 = .ok (.iinc 3 1, 3) := by decide +kernel
theorem dX5_sure_62 : decode cX5_sure 62 = .ok (.goto (-28), 3) := by decide +kernel
theorem dX5_sure_65 : decode cX5_sure 65 = .ok (.iload_n 2, 1) := by decide +kernel
theorem dX5_sure_66 : decode cX5_sure 66 = .ok (.ireturn, 1) := by decide +kernel
theorem dX5_below_0 : decode cX5_below 0 = .ok (.iload_n 1, 1) := by decide +kernel
theorem dX5_below_1 : decode cX5_below 1 = .ok (.invokestatic 149, 3) := by decide +kernel
theorem dX5_below_4 : decode cX5_below 4 = .ok (.ifCond .ne 9, 3) := by decide +kernel
theorem dX5_below_7 : decode cX5_below 7 = .ok (.aload_n 0, 1) := by decide +kernel
theorem dX5_below_8 : decode cX5_below 8 = .ok (.iconst 0, 1) := by decide +kernel
theorem dX5_below_9 : decode cX5_below 9 = .ok (.invokevirtual 73, 3) := by decide +kernel
theorem dX5_below_12 : decode cX5_below 12 = .ok (.ireturn, 1) := by decide +kernel
theorem dX5_below_13 : decode cX5_below 13 = .ok (.aload_n 0, 1) := by decide +kernel
theorem dX5_below_14 : decode cX5_below 14 = .ok (.aload_n 0, 1) := by decide +kernel
theorem dX5_below_15 : decode cX5_below 15 = .ok (.invokevirtual 126, 3) := by decide +kernel
theorem dX5_below_18 : decode cX5_below 18 = .ok (.invokevirtual 136, 3) := by decide +kernel
theorem dX5_below_21 : decode cX5_below 21 = .ok (.ifCond .ne 9, 3) := by decide +kernel
theorem dX5_below_24 : decode cX5_below 24 = .ok (.aload_n 0, 1) := by decide +kernel
theorem dX5_below_25 : decode cX5_below 25 = .ok (.iconst 3, 1) := by decide +kernel
theorem dX5_below_26 : decode cX5_below 26 = .ok (.invokevirtual 73, 3) := by decide +kernel
theorem dX5_below_29 : decode cX5_below 29 = .ok (.ireturn, 1) := by decide +kernel
theorem dX5_below_30 : decode cX5_below 30 = .ok (.iconst 0, 1) := by decide +kernel
theorem dX5_below_31 : decode cX5_below 31 = .ok (.istore_n 2, 1) := by decide +kernel
theorem dX5_below_32 : decode cX5_below 32 = .ok (.iconst 0, 1) := by decide +kernel
theorem dX5_below_33 : decode cX5_below 33 = .ok (.istore_n 3, 1) := by decide +kernel
theorem dX5_below_34 : decode cX5_below 34 = .ok (.iload_n 3, 1) := by decide +kernel
theorem dX5_below_35 : decode cX5_below 35 = .ok (.bipush 8, 2) := by decide +kernel
theorem dX5_below_37 : decode cX5_below 37 = .ok (.if_icmp .ge 27, 3) := by decide +kernel
theorem dX5_below_40 : decode cX5_below 40 = .ok (.aload_n 0, 1) := by decide +kernel
theorem dX5_below_41 : decode cX5_below 41 = .ok (.getfield 29, 3) := by decide +kernel
theorem dX5_below_44 : decode cX5_below 44 = .ok (.iload_n 1, 1) := by decide +kernel
theorem dX5_below_45 : decode cX5_below 45 = .ok (.iload_n 3, 1) := by decide +kernel
theorem dX5_below_46 : decode cX5_below 46 = .ok (.invokevirtual 139, 3) := by decide +kernel
theorem dX5_below_49 : decode cX5_below 49 = .ok (.ifCond .le 9, 3) := by decide +kernel
theorem dX5_below_52 : decode cX5_below 52 = .ok (.iload_n 2, 1) := by decide +kernel
theorem dX5_below_53 : decode cX5_below 53 = .ok (.iconst 1, 1) := by decide +kernel
theorem dX5_below_54 : decode cX5_below 54 = .ok (.iload_n 3, 1) := by decide +kernel
theorem dX5_below_55 : decode cX5_below 55 = .ok (.ishl, 1) := by decide +kernel
theorem dX5_below_56 : decode cX5_below 56 = .ok (.ior, 1) := by decide +kernel
theorem dX5_below_57 : decode cX5_below 57 = .ok (.istore_n 2, 1) := by decide +kernel
theorem dX5_below_58 : decode cX5_below 58 = .ok (.iinc 3 1, 3) := by decide +kernel
theorem dX5_below_61 : decode cX5_below 61 = .ok (.goto (-27), 3) := by decide +kernel
theorem dX5_below_64 : decode cX5_below 64 = .ok (.iload_n 2, 1) := by decide +kernel
theorem dX5_below_65 : decode cX5_below 65 = .ok (.ireturn, 1) := by decide +kernel
theorem dX5_widest_0 : decode cX5_widest 0 = .ok (.aload_n 0, 1) := by decide +kernel
theorem dX5_widest_1 : decode cX5_widest 1 = .ok (.aload_n 0, 1) := by decide +kernel
theorem dX5_widest_2 : decode cX5_widest 2 = .ok (.invokevirtual 126, 3) := by decide +kernel
theorem dX5_widest_5 : decode cX5_widest 5 = .ok (.invokevirtual 136, 3) := by decide +kernel
theorem dX5_widest_8 : decode cX5_widest 8 = .ok (.ifCond .ne 9, 3) := by decide +kernel
theorem dX5_widest_11 : decode cX5_widest 11 = .ok (.aload_n 0, 1) := by decide +kernel
theorem dX5_widest_12 : decode cX5_widest 12 = .ok (.iconst 3, 1) := by decide +kernel
theorem dX5_widest_13 : decode cX5_widest 13 = .ok (.invokevirtual 73, 3) := by decide +kernel
theorem dX5_widest_16 : decode cX5_widest 16 = .ok (.ireturn, 1) := by decide +kernel
theorem dX5_widest_17 : decode cX5_widest 17 = .ok (.aload_n 0, 1) := by decide +kernel
theorem dX5_widest_18 : decode cX5_widest 18 = .ok (.getfield 29, 3) := by decide +kernel
theorem dX5_widest_21 : decode cX5_widest 21 = .ok (.invokevirtual 152, 3) := by decide +kernel
theorem dX5_widest_24 : decode cX5_widest 24 = .ok (.ireturn, 1) := by decide +kernel
theorem dX5_unknown_0 : decode cX5_unknown 0 = .ok (.aload_n 0, 1) := by decide +kernel
theorem dX5_unknown_1 : decode cX5_unknown 1 = .ok (.aload_n 0, 1) := by decide +kernel
theorem dX5_unknown_2 : decode cX5_unknown 2 = .ok (.invokevirtual 126, 3) := by decide +kernel
theorem dX5_unknown_5 : decode cX5_unknown 5 = .ok (.invokevirtual 136, 3) := by decide +kernel
theorem dX5_unknown_8 : decode cX5_unknown 8 = .ok (.ifCond .ne 9, 3) := by decide +kernel
theorem dX5_unknown_11 : decode cX5_unknown 11 = .ok (.aload_n 0, 1) := by decide +kernel
theorem dX5_unknown_12 : decode cX5_unknown 12 = .ok (.iconst 3, 1) := by decide +kernel
theorem dX5_unknown_13 : decode cX5_unknown 13 = .ok (.invokevirtual 73, 3) := by decide +kernel
theorem dX5_unknown_16 : decode cX5_unknown 16 = .ok (.ireturn, 1) := by decide +kernel
theorem dX5_unknown_17 : decode cX5_unknown 17 = .ok (.aload_n 0, 1) := by decide +kernel
theorem dX5_unknown_18 : decode cX5_unknown 18 = .ok (.getfield 29, 3) := by decide +kernel
theorem dX5_unknown_21 : decode cX5_unknown 21 = .ok (.invokevirtual 155, 3) := by decide +kernel
theorem dX5_unknown_24 : decode cX5_unknown 24 = .ok (.ireturn, 1) := by decide +kernel
theorem dX5_can_0 : decode cX5_can 0 = .ok (.iload_n 1, 1) := by decide +kernel
theorem dX5_can_1 : decode cX5_can 1 = .ok (.iload_n 2, 1) := by decide +kernel
theorem dX5_can_2 : decode cX5_can 2 = .ok (.invokestatic 62, 3) := by decide +kernel
theorem dX5_can_5 : decode cX5_can 5 = .ok (.ifCond .eq 16, 3) := by decide +kernel
theorem dX5_can_8 : decode cX5_can 8 = .ok (.iload_n 3, 1) := by decide +kernel
theorem dX5_can_9 : decode cX5_can 9 = .ok (.sipush (-999), 3) := by decide +kernel
theorem dX5_can_12 : decode cX5_can 12 = .ok (.sipush 999, 3) := by decide +kernel
theorem dX5_can_15 : decode cX5_can 15 = .ok (.invokestatic 69, 3) := by decide +kernel
theorem dX5_can_18 : decode cX5_can 18 = .ok (.ifCond .ne 9, 3) := by decide +kernel
theorem dX5_can_21 : decode cX5_can 21 = .ok (.aload_n 0, 1) := by decide +kernel
theorem dX5_can_22 : decode cX5_can 22 = .ok (.iconst 0, 1) := by decide +kernel
theorem dX5_can_23 : decode cX5_can 23 = .ok (.invokevirtual 73, 3) := by decide +kernel
theorem dX5_can_26 : decode cX5_can 26 = .ok (.ireturn, 1) := by decide +kernel
theorem dX5_can_27 : decode cX5_can 27 = .ok (.aload_n 0, 1) := by decide +kernel
theorem dX5_can_28 : decode cX5_can 28 = .ok (.aload_n 0, 1) := by decide +kernel
theorem dX5_can_29 : decode cX5_can 29 = .ok (.invokevirtual 126, 3) := by decide +kernel
theorem dX5_can_32 : decode cX5_can 32 = .ok (.invokevirtual 136, 3) := by decide +kernel
theorem dX5_can_35 : decode cX5_can 35 = .ok (.ifCond .eq 21, 3) := by decide +kernel
theorem dX5_can_38 : decode cX5_can 38 = .ok (.aload_n 0, 1) := by decide +kernel
theorem dX5_can_39 : decode cX5_can 39 = .ok (.getfield 29, 3) := by decide +kernel
theorem dX5_can_42 : decode cX5_can 42 = .ok (.iload_n 1, 1) := by decide +kernel
theorem dX5_can_43 : decode cX5_can 43 = .ok (.iload_n 2, 1) := by decide +kernel
theorem dX5_can_44 : decode cX5_can 44 = .ok (.iload_n 3, 1) := by decide +kernel
theorem dX5_can_45 : decode cX5_can 45 = .ok (.iload_n 3, 1) := by decide +kernel
theorem dX5_can_46 : decode cX5_can 46 = .ok (.invokevirtual 158, 3) := by decide +kernel
theorem dX5_can_49 : decode cX5_can 49 = .ok (.ifCond .eq 7, 3) := by decide +kernel
theorem dX5_can_52 : decode cX5_can 52 = .ok (.iconst 1, 1) := by decide +kernel
theorem dX5_can_53 : decode cX5_can 53 = .ok (.goto 4, 3) := by decide +kernel
theorem dX5_can_56 : decode cX5_can 56 = .ok (.iconst 0, 1) := by decide +kernel
theorem dX5_can_57 : decode cX5_can 57 = .ok (.ireturn, 1) := by decide +kernel
theorem dX5_when_0 : decode cX5_when 0 = .ok (.iconst 0, 1) := by decide +kernel
theorem dX5_when_1 : decode cX5_when 1 = .ok (.istore_n 1, 1) := by decide +kernel
theorem dX5_when_2 : decode cX5_when 2 = .ok (.iconst 0, 1) := by decide +kernel
theorem dX5_when_3 : decode cX5_when 3 = .ok (.istore_n 2, 1) := by decide +kernel
theorem dX5_when_4 : decode cX5_when 4 = .ok (.iload_n 2, 1) := by decide +kernel
theorem dX5_when_5 : decode cX5_when 5 = .ok (.sipush 500, 3) := by decide +kernel
theorem dX5_when_8 : decode cX5_when 8 = .ok (.if_icmp .gt 43, 3) := by decide +kernel
theorem dX5_when_11 : decode cX5_when 11 = .ok (.aload_n 0, 1) := by decide +kernel
theorem dX5_when_12 : decode cX5_when 12 = .ok (.getfield 10, 3) := by decide +kernel
theorem dX5_when_15 : decode cX5_when 15 = .ok (.aload_n 0, 1) := by decide +kernel
theorem dX5_when_16 : decode cX5_when 16 = .ok (.getfield 10, 3) := by decide +kernel
theorem dX5_when_19 : decode cX5_when 19 = .ok (.getfield 107, 3) := by decide +kernel
theorem dX5_when_22 : decode cX5_when 22 = .ok (.iload_n 2, 1) := by decide +kernel
theorem dX5_when_23 : decode cX5_when 23 = .ok (.iadd, 1) := by decide +kernel
theorem dX5_when_24 : decode cX5_when 24 = .ok (.invokevirtual 162, 3) := by decide +kernel
theorem dX5_when_27 : decode cX5_when 27 = .ok (.istore_n 3, 1) := by decide +kernel
theorem dX5_when_28 : decode cX5_when 28 = .ok (.iload_n 3, 1) := by decide +kernel
theorem dX5_when_29 : decode cX5_when 29 = .ok (.iload_n 1, 1) := by decide +kernel
theorem dX5_when_30 : decode cX5_when 30 = .ok (.if_icmp .eq 13, 3) := by decide +kernel
theorem dX5_when_33 : decode cX5_when 33 = .ok (.aload_n 0, 1) := by decide +kernel
theorem dX5_when_34 : decode cX5_when 34 = .ok (.iload_n 3, 1) := by decide +kernel
theorem dX5_when_35 : decode cX5_when 35 = .ok (.invokevirtual 136, 3) := by decide +kernel
theorem dX5_when_38 : decode cX5_when 38 = .ok (.ifCond .ne 5, 3) := by decide +kernel
theorem dX5_when_41 : decode cX5_when 41 = .ok (.iload_n 2, 1) := by decide +kernel
theorem dX5_when_42 : decode cX5_when 42 = .ok (.ireturn, 1) := by decide +kernel
theorem dX5_when_43 : decode cX5_when 43 = .ok (.iload_n 3, 1) := by decide +kernel
theorem dX5_when_44 : decode cX5_when 44 = .ok (.istore_n 1, 1) := by decide +kernel
theorem dX5_when_45 : decode cX5_when 45 = .ok (.iinc 2 1, 3) := by decide +kernel
theorem dX5_when_48 : decode cX5_when 48 = .ok (.goto (-44), 3) := by decide +kernel
theorem dX5_when_51 : decode cX5_when 51 = .ok (.aload_n 0, 1) := by decide +kernel
theorem dX5_when_52 : decode cX5_when 52 = .ok (.iconst 3, 1) := by decide +kernel
theorem dX5_when_53 : decode cX5_when 53 = .ok (.invokevirtual 73, 3) := by decide +kernel
theorem dX5_when_56 : decode cX5_when 56 = .ok (.ireturn, 1) := by decide +kernel
theorem dX5_ahead_0 : decode cX5_ahead 0 = .ok (.iload_n 1, 1) := by decide +kernel
theorem dX5_ahead_1 : decode cX5_ahead 1 = .ok (.iconst 0, 1) := by decide +kernel
theorem dX5_ahead_2 : decode cX5_ahead 2 = .ok (.sipush 500, 3) := by decide +kernel
theorem dX5_ahead_5 : decode cX5_ahead 5 = .ok (.invokestatic 69, 3) := by decide +kernel
theorem dX5_ahead_8 : decode cX5_ahead 8 = .ok (.ifCond .ne 9, 3) := by decide +kernel
theorem dX5_ahead_11 : decode cX5_ahead 11 = .ok (.aload_n 0, 1) := by decide +kernel
theorem dX5_ahead_12 : decode cX5_ahead 12 = .ok (.iconst 0, 1) := by decide +kernel
theorem dX5_ahead_13 : decode cX5_ahead 13 = .ok (.invokevirtual 73, 3) := by decide +kernel
theorem dX5_ahead_16 : decode cX5_ahead 16 = .ok (.ireturn, 1) := by decide +kernel
theorem dX5_ahead_17 : decode cX5_ahead 17 = .ok (.aload_n 0, 1) := by decide +kernel
theorem dX5_ahead_18 : decode cX5_ahead 18 = .ok (.getfield 10, 3) := by decide +kernel
theorem dX5_ahead_21 : decode cX5_ahead 21 = .ok (.aload_n 0, 1) := by decide +kernel
theorem dX5_ahead_22 : decode cX5_ahead 22 = .ok (.getfield 10, 3) := by decide +kernel
theorem dX5_ahead_25 : decode cX5_ahead 25 = .ok (.getfield 107, 3) := by decide +kernel
theorem dX5_ahead_28 : decode cX5_ahead 28 = .ok (.iload_n 1, 1) := by decide +kernel
theorem dX5_ahead_29 : decode cX5_ahead 29 = .ok (.iadd, 1) := by decide +kernel
theorem dX5_ahead_30 : decode cX5_ahead 30 = .ok (.invokevirtual 162, 3) := by decide +kernel
theorem dX5_ahead_33 : decode cX5_ahead 33 = .ok (.ireturn, 1) := by decide +kernel
theorem dX5_known_0 : decode cX5_known 0 = .ok (.iload_n 1, 1) := by decide +kernel
theorem dX5_known_1 : decode cX5_known 1 = .ok (.iload_n 2, 1) := by decide +kernel
theorem dX5_known_2 : decode cX5_known 2 = .ok (.invokestatic 62, 3) := by decide +kernel
theorem dX5_known_5 : decode cX5_known 5 = .ok (.ifCond .ne 9, 3) := by decide +kernel
theorem dX5_known_8 : decode cX5_known 8 = .ok (.aload_n 0, 1) := by decide +kernel
theorem dX5_known_9 : decode cX5_known 9 = .ok (.iconst 0, 1) := by decide +kernel
theorem dX5_known_10 : decode cX5_known 10 = .ok (.invokevirtual 73, 3) := by decide +kernel
theorem dX5_known_13 : decode cX5_known 13 = .ok (.ireturn, 1) := by decide +kernel
theorem dX5_known_14 : decode cX5_known 14 = .ok (.iconst 0, 1) := by decide +kernel
theorem dX5_known_15 : decode cX5_known 15 = .ok (.istore_n 3, 1) := by decide +kernel
theorem dX5_known_16 : decode cX5_known 16 = .ok (.iconst 0, 1) := by decide +kernel
theorem dX5_known_17 : decode cX5_known 17 = .ok (.istore 4, 2) := by decide +kernel
theorem dX5_known_19 : decode cX5_known 19 = .ok (.iload 4, 2) := by decide +kernel
theorem dX5_known_21 : decode cX5_known 21 = .ok (.sipush 500, 3) := by decide +kernel
theorem dX5_known_24 : decode cX5_known 24 = .ok (.if_icmp .gt 62, 3) := by decide +kernel
theorem dX5_known_27 : decode cX5_known 27 = .ok (.aload_n 0, 1) := by decide +kernel
theorem dX5_known_28 : decode cX5_known 28 = .ok (.getfield 10, 3) := by decide +kernel
theorem dX5_known_31 : decode cX5_known 31 = .ok (.aload_n 0, 1) := by decide +kernel
theorem dX5_known_32 : decode cX5_known 32 = .ok (.getfield 10, 3) := by decide +kernel
theorem dX5_known_35 : decode cX5_known 35 = .ok (.getfield 107, 3) := by decide +kernel
theorem dX5_known_38 : decode cX5_known 38 = .ok (.iload 4, 2) := by decide +kernel
theorem dX5_known_40 : decode cX5_known 40 = .ok (.iadd, 1) := by decide +kernel
theorem dX5_known_41 : decode cX5_known 41 = .ok (.invokevirtual 162, 3) := by decide +kernel
theorem dX5_known_44 : decode cX5_known 44 = .ok (.istore 5, 2) := by decide +kernel
theorem dX5_known_46 : decode cX5_known 46 = .ok (.iload 5, 2) := by decide +kernel
theorem dX5_known_48 : decode cX5_known 48 = .ok (.iload_n 3, 1) := by decide +kernel
theorem dX5_known_49 : decode cX5_known 49 = .ok (.if_icmp .eq 28, 3) := by decide +kernel
theorem dX5_known_52 : decode cX5_known 52 = .ok (.aload_n 0, 1) := by decide +kernel
theorem dX5_known_53 : decode cX5_known 53 = .ok (.iload 5, 2) := by decide +kernel
theorem dX5_known_55 : decode cX5_known 55 = .ok (.invokevirtual 136, 3) := by decide +kernel
theorem dX5_known_58 : decode cX5_known 58 = .ok (.ifCond .eq 19, 3) := by decide +kernel
theorem dX5_known_61 : decode cX5_known 61 = .ok (.aload_n 0, 1) := by decide +kernel
theorem dX5_known_62 : decode cX5_known 62 = .ok (.getfield 29, 3) := by decide +kernel
theorem dX5_known_65 : decode cX5_known 65 = .ok (.iload_n 1, 1) := by decide +kernel
theorem dX5_known_66 : decode cX5_known 66 = .ok (.iload_n 2, 1) := by decide +kernel
theorem dX5_known_67 : decode cX5_known 67 = .ok (.invokevirtual 146, 3) := by decide +kernel
theorem dX5_known_70 : decode cX5_known 70 = .ok (.iconst 1, 1) := by decide +kernel
theorem dX5_known_71 : decode cX5_known 71 = .ok (.if_icmp .ne 6, 3) := by decide +kernel
theorem dX5_known_74 : decode cX5_known 74 = .ok (.iload 4, 2) := by decide +kernel
theorem dX5_known_76 : decode cX5_known 76 = .ok (.ireturn, 1) := by decide +kernel
theorem dX5_known_77 : decode cX5_known 77 = .ok (.iload 5, 2) := by decide +kernel
theorem dX5_known_79 : decode cX5_known 79 = .ok (.istore_n 3, 1) := by decide +kernel
theorem dX5_known_80 : decode cX5_known 80 = .ok (.iinc 4 1, 3) := by decide +kernel
theorem dX5_known_83 : decode cX5_known 83 = .ok (.goto (-64), 3) := by decide +kernel
theorem dX5_known_86 : decode cX5_known 86 = .ok (.aload_n 0, 1) := by decide +kernel
theorem dX5_known_87 : decode cX5_known 87 = .ok (.iconst 3, 1) := by decide +kernel
theorem dX5_known_88 : decode cX5_known 88 = .ok (.invokevirtual 73, 3) := by decide +kernel
theorem dX5_known_91 : decode cX5_known 91 = .ok (.ireturn, 1) := by decide +kernel
theorem dX5_agree_0 : decode cX5_agree 0 = .ok (.aload_n 0, 1) := by decide +kernel
theorem dX5_agree_1 : decode cX5_agree 1 = .ok (.getfield 10, 3) := by decide +kernel
theorem dX5_agree_4 : decode cX5_agree 4 = .ok (.iload_n 1, 1) := by decide +kernel
theorem dX5_agree_5 : decode cX5_agree 5 = .ok (.invokevirtual 165, 3) := by decide +kernel
theorem dX5_agree_8 : decode cX5_agree 8 = .ok (.ifCond .ne 9, 3) := by decide +kernel
theorem dX5_agree_11 : decode cX5_agree 11 = .ok (.aload_n 0, 1) := by decide +kernel
theorem dX5_agree_12 : decode cX5_agree 12 = .ok (.iconst 0, 1) := by decide +kernel
theorem dX5_agree_13 : decode cX5_agree 13 = .ok (.invokevirtual 73, 3) := by decide +kernel
theorem dX5_agree_16 : decode cX5_agree 16 = .ok (.ireturn, 1) := by decide +kernel
theorem dX5_agree_17 : decode cX5_agree 17 = .ok (.aload_n 0, 1) := by decide +kernel
theorem dX5_agree_18 : decode cX5_agree 18 = .ok (.iload_n 1, 1) := by decide +kernel
theorem dX5_agree_19 : decode cX5_agree 19 = .ok (.invokevirtual 136, 3) := by decide +kernel
theorem dX5_agree_22 : decode cX5_agree 22 = .ok (.ifCond .eq 7, 3) := by decide +kernel
theorem dX5_agree_25 : decode cX5_agree 25 = .ok (.iconst 1, 1) := by decide +kernel
theorem dX5_agree_26 : decode cX5_agree 26 = .ok (.goto 4, 3) := by decide +kernel
theorem dX5_agree_29 : decode cX5_agree 29 = .ok (.iconst 0, 1) := by decide +kernel
theorem dX5_agree_30 : decode cX5_agree 30 = .ok (.ireturn, 1) := by decide +kernel
theorem dX5_strike_0 : decode cX5_strike 0 = .ok (.aload_n 0, 1) := by decide +kernel
theorem dX5_strike_1 : decode cX5_strike 1 = .ok (.iconst 0, 1) := by decide +kernel
theorem dX5_strike_2 : decode cX5_strike 2 = .ok (.aload_n 0, 1) := by decide +kernel
theorem dX5_strike_3 : decode cX5_strike 3 = .ok (.invokevirtual 126, 3) := by decide +kernel
theorem dX5_strike_6 : decode cX5_strike 6 = .ok (.invokevirtual 168, 3) := by decide +kernel
theorem dX5_strike_9 : decode cX5_strike 9 = .ok (.ireturn, 1) := by decide +kernel
theorem dX5_strikes_0 : decode cX5_strikes 0 = .ok (.aload_n 0, 1) := by decide +kernel
theorem dX5_strikes_1 : decode cX5_strikes 1 = .ok (.invokevirtual 126, 3) := by decide +kernel
theorem dX5_strikes_4 : decode cX5_strikes 4 = .ok (.istore_n 1, 1) := by decide +kernel
theorem dX5_strikes_5 : decode cX5_strikes 5 = .ok (.aload_n 0, 1) := by decide +kernel
theorem dX5_strikes_6 : decode cX5_strikes 6 = .ok (.iconst 0, 1) := by decide +kernel
theorem dX5_strikes_7 : decode cX5_strikes 7 = .ok (.iload_n 1, 1) := by decide +kernel
theorem dX5_strikes_8 : decode cX5_strikes 8 = .ok (.invokevirtual 168, 3) := by decide +kernel
theorem dX5_strikes_11 : decode cX5_strikes 11 = .ok (.invokestatic 171, 3) := by decide +kernel
theorem dX5_strikes_14 : decode cX5_strikes 14 = .ok (.istore_n 2, 1) := by decide +kernel
theorem dX5_strikes_15 : decode cX5_strikes 15 = .ok (.iconst 0, 1) := by decide +kernel
theorem dX5_strikes_16 : decode cX5_strikes 16 = .ok (.istore_n 3, 1) := by decide +kernel
theorem dX5_strikes_17 : decode cX5_strikes 17 = .ok (.iconst 0, 1) := by decide +kernel
theorem dX5_strikes_18 : decode cX5_strikes 18 = .ok (.istore 4, 2) := by decide +kernel
theorem dX5_strikes_20 : decode cX5_strikes 20 = .ok (.iload 4, 2) := by decide +kernel
theorem dX5_strikes_22 : decode cX5_strikes 22 = .ok (.iload_n 1, 1) := by decide +kernel
theorem dX5_strikes_23 : decode cX5_strikes 23 = .ok (.if_icmp .gt 35, 3) := by decide +kernel
theorem dX5_strikes_26 : decode cX5_strikes 26 = .ok (.iload 4, 2) := by decide +kernel
theorem dX5_strikes_28 : decode cX5_strikes 28 = .ok (.iload_n 1, 1) := by decide +kernel
theorem dX5_strikes_29 : decode cX5_strikes 29 = .ok (.iload_n 2, 1) := by decide +kernel
theorem dX5_strikes_30 : decode cX5_strikes 30 = .ok (.invokestatic 176, 3) := by decide +kernel
theorem dX5_strikes_33 : decode cX5_strikes 33 = .ok (.ifCond .eq 19, 3) := by decide +kernel
theorem dX5_strikes_36 : decode cX5_strikes 36 = .ok (.aload_n 0, 1) := by decide +kernel
theorem dX5_strikes_37 : decode cX5_strikes 37 = .ok (.iload_n 1, 1) := by decide +kernel
theorem dX5_strikes_38 : decode cX5_strikes 38 = .ok (.iload 4, 2) := by decide +kernel
theorem dX5_strikes_40 : decode cX5_strikes 40 = .ok (.iconst (-1), 1) := by decide +kernel
theorem dX5_strikes_41 : decode cX5_strikes 41 = .ok (.ixor, 1) := by decide +kernel
theorem dX5_strikes_42 : decode cX5_strikes 42 = .ok (.iand, 1) := by decide +kernel
theorem dX5_strikes_43 : decode cX5_strikes 43 = .ok (.invokevirtual 136, 3) := by decide +kernel
theorem dX5_strikes_46 : decode cX5_strikes 46 = .ok (.ifCond .eq 6, 3) := by decide +kernel
theorem dX5_strikes_49 : decode cX5_strikes 49 = .ok (.iinc 3 1, 3) := by decide +kernel
theorem dX5_strikes_52 : decode cX5_strikes 52 = .ok (.iinc 4 1, 3) := by decide +kernel
theorem dX5_strikes_55 : decode cX5_strikes 55 = .ok (.goto (-35), 3) := by decide +kernel
theorem dX5_strikes_58 : decode cX5_strikes 58 = .ok (.iload_n 3, 1) := by decide +kernel
theorem dX5_strikes_59 : decode cX5_strikes 59 = .ok (.ireturn, 1) := by decide +kernel
theorem dX5_implied_0 : decode cX5_implied 0 = .ok (.aload_n 0, 1) := by decide +kernel
theorem dX5_implied_1 : decode cX5_implied 1 = .ok (.invokevirtual 126, 3) := by decide +kernel
theorem dX5_implied_4 : decode cX5_implied 4 = .ok (.istore_n 1, 1) := by decide +kernel
theorem dX5_implied_5 : decode cX5_implied 5 = .ok (.aload_n 0, 1) := by decide +kernel
theorem dX5_implied_6 : decode cX5_implied 6 = .ok (.iload_n 1, 1) := by decide +kernel
theorem dX5_implied_7 : decode cX5_implied 7 = .ok (.invokevirtual 136, 3) := by decide +kernel
theorem dX5_implied_10 : decode cX5_implied 10 = .ok (.ifCond .ne 9, 3) := by decide +kernel
theorem dX5_implied_13 : decode cX5_implied 13 = .ok (.aload_n 0, 1) := by decide +kernel
theorem dX5_implied_14 : decode cX5_implied 14 = .ok (.iconst 3, 1) := by decide +kernel
theorem dX5_implied_15 : decode cX5_implied 15 = .ok (.invokevirtual 73, 3) := by decide +kernel
theorem dX5_implied_18 : decode cX5_implied 18 = .ok (.ireturn, 1) := by decide +kernel
theorem dX5_implied_19 : decode cX5_implied 19 = .ok (.iconst 0, 1) := by decide +kernel
theorem dX5_implied_20 : decode cX5_implied 20 = .ok (.istore_n 2, 1) := by decide +kernel
theorem dX5_implied_21 : decode cX5_implied 21 = .ok (.iconst 0, 1) := by decide +kernel
theorem dX5_implied_22 : decode cX5_implied 22 = .ok (.istore_n 3, 1) := by decide +kernel
theorem dX5_implied_23 : decode cX5_implied 23 = .ok (.iload_n 3, 1) := by decide +kernel
theorem dX5_implied_24 : decode cX5_implied 24 = .ok (.aload_n 0, 1) := by decide +kernel
theorem dX5_implied_25 : decode cX5_implied 25 = .ok (.getfield 10, 3) := by decide +kernel
theorem dX5_implied_28 : decode cX5_implied 28 = .ok (.getfield 77, 3) := by decide +kernel
theorem dX5_implied_31 : decode cX5_implied 31 = .ok (.if_icmp .ge 61, 3) := by decide +kernel
theorem dX5_implied_34 : decode cX5_implied 34 = .ok (.iload_n 3, 1) := by decide +kernel
theorem dX5_implied_35 : decode cX5_implied 35 = .ok (.iload_n 1, 1) := by decide +kernel
theorem dX5_implied_36 : decode cX5_implied 36 = .ok (.invokestatic 179, 3) := by decide +kernel
theorem dX5_implied_39 : decode cX5_implied 39 = .ok (.ifCond .eq 47, 3) := by decide +kernel
theorem dX5_implied_42 : decode cX5_implied 42 = .ok (.aload_n 0, 1) := by decide +kernel
theorem dX5_implied_43 : decode cX5_implied 43 = .ok (.iload_n 3, 1) := by decide +kernel
theorem dX5_implied_44 : decode cX5_implied 44 = .ok (.iload_n 1, 1) := by decide +kernel
theorem dX5_implied_45 : decode cX5_implied 45 = .ok (.invokestatic 182, 3) := by decide +kernel
theorem dX5_implied_48 : decode cX5_implied 48 = .ok (.invokevirtual 136, 3) := by decide +kernel
theorem dX5_implied_51 : decode cX5_implied 51 = .ok (.ifCond .eq 35, 3) := by decide +kernel
theorem dX5_implied_54 : decode cX5_implied 54 = .ok (.aload_n 0, 1) := by decide +kernel
theorem dX5_implied_55 : decode cX5_implied 55 = .ok (.getfield 29, 3) := by decide +kernel
theorem dX5_implied_58 : decode cX5_implied 58 = .ok (.aload_n 0, 1) := by decide +kernel
theorem dX5_implied_59 : decode cX5_implied 59 = .ok (.getfield 10, 3) := by decide +kernel
theorem dX5_implied_62 : decode cX5_implied 62 = .ok (.getfield 88, 3) := by decide +kernel
theorem dX5_implied_65 : decode cX5_implied 65 = .ok (.iload_n 3, 1) := by decide +kernel
theorem dX5_implied_66 : decode cX5_implied 66 = .ok (.aaload, 1) := by decide +kernel
theorem dX5_implied_67 : decode cX5_implied 67 = .ok (.aload_n 0, 1) := by decide +kernel
theorem dX5_implied_68 : decode cX5_implied 68 = .ok (.getfield 10, 3) := by decide +kernel
theorem dX5_implied_71 : decode cX5_implied 71 = .ok (.getfield 92, 3) := by decide +kernel
theorem dX5_implied_74 : decode cX5_implied 74 = .ok (.invokevirtual 185, 3) := by decide +kernel
theorem dX5_implied_77 : decode cX5_implied 77 = .ok (.ifCond .eq 9, 3) := by decide +kernel
theorem dX5_implied_80 : decode cX5_implied 80 = .ok (.iload_n 2, 1) := by decide +kernel
theorem dX5_implied_81 : decode cX5_implied 81 = .ok (.iconst 1, 1) := by decide +kernel
theorem dX5_implied_82 : decode cX5_implied 82 = .ok (.iload_n 3, 1) := by decide +kernel
theorem dX5_implied_83 : decode cX5_implied 83 = .ok (.ishl, 1) := by decide +kernel
theorem dX5_implied_84 : decode cX5_implied 84 = .ok (.ior, 1) := by decide +kernel
theorem dX5_implied_85 : decode cX5_implied 85 = .ok (.istore_n 2, 1) := by decide +kernel
theorem dX5_implied_86 : decode cX5_implied 86 = .ok (.iinc 3 1, 3) := by decide +kernel
theorem dX5_implied_89 : decode cX5_implied 89 = .ok (.goto (-66), 3) := by decide +kernel
theorem dX5_implied_92 : decode cX5_implied 92 = .ok (.iload_n 2, 1) := by decide +kernel
theorem dX5_implied_93 : decode cX5_implied 93 = .ok (.ireturn, 1) := by decide +kernel
theorem dX5_suspects_0 : decode cX5_suspects 0 = .ok (.aload_n 0, 1) := by decide +kernel
theorem dX5_suspects_1 : decode cX5_suspects 1 = .ok (.invokevirtual 126, 3) := by decide +kernel
theorem dX5_suspects_4 : decode cX5_suspects 4 = .ok (.istore_n 1, 1) := by decide +kernel
theorem dX5_suspects_5 : decode cX5_suspects 5 = .ok (.iconst 0, 1) := by decide +kernel
theorem dX5_suspects_6 : decode cX5_suspects 6 = .ok (.istore_n 2, 1) := by decide +kernel
theorem dX5_suspects_7 : decode cX5_suspects 7 = .ok (.iconst 0, 1) := by decide +kernel
theorem dX5_suspects_8 : decode cX5_suspects 8 = .ok (.istore_n 3, 1) := by decide +kernel
theorem dX5_suspects_9 : decode cX5_suspects 9 = .ok (.iload_n 3, 1) := by decide +kernel
theorem dX5_suspects_10 : decode cX5_suspects 10 = .ok (.aload_n 0, 1) := by decide +kernel
theorem dX5_suspects_11 : decode cX5_suspects 11 = .ok (.getfield 10, 3) := by decide +kernel
theorem dX5_suspects_14 : decode cX5_suspects 14 = .ok (.getfield 77, 3) := by decide +kernel
theorem dX5_suspects_17 : decode cX5_suspects 17 = .ok (.if_icmp .ge 35, 3) := by decide +kernel
theorem dX5_suspects_20 : decode cX5_suspects 20 = .ok (.iload_n 3, 1) := by decide +kernel
theorem dX5_suspects_21 : decode cX5_suspects 21 = .ok (.iload_n 1, 1) := by decide +kernel
theorem dX5_suspects_22 : decode cX5_suspects 22 = .ok (.invokestatic 179, 3) := by decide +kernel
theorem dX5_suspects_25 : decode cX5_suspects 25 = .ok (.ifCond .eq 21, 3) := by decide +kernel
theorem dX5_suspects_28 : decode cX5_suspects 28 = .ok (.aload_n 0, 1) := by decide +kernel
theorem dX5_suspects_29 : decode cX5_suspects 29 = .ok (.iload_n 3, 1) := by decide +kernel
theorem dX5_suspects_30 : decode cX5_suspects 30 = .ok (.iload_n 1, 1) := by decide +kernel
theorem dX5_suspects_31 : decode cX5_suspects 31 = .ok (.invokestatic 182, 3) := by decide +kernel
theorem dX5_suspects_34 : decode cX5_suspects 34 = .ok (.invokevirtual 136, 3) := by decide +kernel
theorem dX5_suspects_37 : decode cX5_suspects 37 = .ok (.ifCond .eq 9, 3) := by decide +kernel
theorem dX5_suspects_40 : decode cX5_suspects 40 = .ok (.iload_n 2, 1) := by decide +kernel
theorem dX5_suspects_41 : decode cX5_suspects 41 = .ok (.iconst 1, 1) := by decide +kernel
theorem dX5_suspects_42 : decode cX5_suspects 42 = .ok (.iload_n 3, 1) := by decide +kernel
theorem dX5_suspects_43 : decode cX5_suspects 43 = .ok (.ishl, 1) := by decide +kernel
theorem dX5_suspects_44 : decode cX5_suspects 44 = .ok (.ior, 1) := by decide +kernel
theorem dX5_suspects_45 : decode cX5_suspects 45 = .ok (.istore_n 2, 1) := by decide +kernel
theorem dX5_suspects_46 : decode cX5_suspects 46 = .ok (.iinc 3 1, 3) := by decide +kernel
theorem dX5_suspects_49 : decode cX5_suspects 49 = .ok (.goto (-40), 3) := by decide +kernel
theorem dX5_suspects_52 : decode cX5_suspects 52 = .ok (.iload_n 2, 1) := by decide +kernel
theorem dX5_suspects_53 : decode cX5_suspects 53 = .ok (.ireturn, 1) := by decide +kernel
theorem dX5_dearest_0 : decode cX5_dearest 0 = .ok (.aload_n 0, 1) := by decide +kernel
theorem dX5_dearest_1 : decode cX5_dearest 1 = .ok (.invokevirtual 126, 3) := by decide +kernel
theorem dX5_dearest_4 : decode cX5_dearest 4 = .ok (.istore_n 1, 1) := by decide +kernel
theorem dX5_dearest_5 : decode cX5_dearest 5 = .ok (.iload_n 1, 1) := by decide +kernel
theorem dX5_dearest_6 : decode cX5_dearest 6 = .ok (.ifCond .eq 11, 3) := by decide +kernel
theorem dX5_dearest_9 : decode cX5_dearest 9 = .ok (.aload_n 0, 1) := by decide +kernel
theorem dX5_dearest_10 : decode cX5_dearest 10 = .ok (.iload_n 1, 1) := by decide +kernel
theorem dX5_dearest_11 : decode cX5_dearest 11 = .ok (.invokevirtual 136, 3) := by decide +kernel
theorem dX5_dearest_14 : decode cX5_dearest 14 = .ok (.ifCond .ne 9, 3) := by decide +kernel
theorem dX5_dearest_17 : decode cX5_dearest 17 = .ok (.aload_n 0, 1) := by decide +kernel
theorem dX5_dearest_18 : decode cX5_dearest 18 = .ok (.iconst 3, 1) := by decide +kernel
theorem dX5_dearest_19 : decode cX5_dearest 19 = .ok (.invokevirtual 73, 3) := by decide +kernel
theorem dX5_dearest_22 : decode cX5_dearest 22 = .ok (.ireturn, 1) := by decide +kernel
theorem dX5_dearest_23 : decode cX5_dearest 23 = .ok (.iconst 0, 1) := by decide +kernel
theorem dX5_dearest_24 : decode cX5_dearest 24 = .ok (.istore_n 2, 1) := by decide +kernel
theorem dX5_dearest_25 : decode cX5_dearest 25 = .ok (.iconst (-1), 1) := by decide +kernel
theorem dX5_dearest_26 : decode cX5_dearest 26 = .ok (.istore_n 3, 1) := by decide +kernel
theorem dX5_dearest_27 : decode cX5_dearest 27 = .ok (.iconst 0, 1) := by decide +kernel
theorem dX5_dearest_28 : decode cX5_dearest 28 = .ok (.istore 4, 2) := by decide +kernel
theorem dX5_dearest_30 : decode cX5_dearest 30 = .ok (.iload 4, 2) := by decide +kernel
theorem dX5_dearest_32 : decode cX5_dearest 32 = .ok (.aload_n 0, 1) := by decide +kernel
theorem dX5_dearest_33 : decode cX5_dearest 33 = .ok (.getfield 10, 3) := by decide +kernel
theorem dX5_dearest_36 : decode cX5_dearest 36 = .ok (.getfield 77, 3) := by decide +kernel
theorem dX5_dearest_39 : decode cX5_dearest 39 = .ok (.if_icmp .ge 53, 3) := by decide +kernel
theorem dX5_dearest_42 : decode cX5_dearest 42 = .ok (.iload 4, 2) := by decide +kernel
theorem dX5_dearest_44 : decode cX5_dearest 44 = .ok (.iload_n 1, 1) := by decide +kernel
theorem dX5_dearest_45 : decode cX5_dearest 45 = .ok (.invokestatic 179, 3) := by decide +kernel
theorem dX5_dearest_48 : decode cX5_dearest 48 = .ok (.ifCond .eq 38, 3) := by decide +kernel
theorem dX5_dearest_51 : decode cX5_dearest 51 = .ok (.aload_n 0, 1) := by decide +kernel
theorem dX5_dearest_52 : decode cX5_dearest 52 = .ok (.iload 4, 2) := by decide +kernel
theorem dX5_dearest_54 : decode cX5_dearest 54 = .ok (.iload_n 1, 1) := by decide +kernel
theorem dX5_dearest_55 : decode cX5_dearest 55 = .ok (.invokestatic 182, 3) := by decide +kernel
theorem dX5_dearest_58 : decode cX5_dearest 58 = .ok (.invokevirtual 136, 3) := by decide +kernel
theorem dX5_dearest_61 : decode cX5_dearest 61 = .ok (.ifCond .eq 25, 3) := by decide +kernel
theorem dX5_dearest_64 : decode cX5_dearest 64 = .ok (.aload_n 0, 1) := by decide +kernel
theorem dX5_dearest_65 : decode cX5_dearest 65 = .ok (.getfield 29, 3) := by decide +kernel
theorem dX5_dearest_68 : decode cX5_dearest 68 = .ok (.invokevirtual 155, 3) := by decide +kernel
theorem dX5_dearest_71 : decode cX5_dearest 71 = .ok (.iload_n 3, 1) := by decide +kernel
theorem dX5_dearest_72 : decode cX5_dearest 72 = .ok (.if_icmp .le 14, 3) := by decide +kernel
theorem dX5_dearest_75 : decode cX5_dearest 75 = .ok (.aload_n 0, 1) := by decide +kernel
theorem dX5_dearest_76 : decode cX5_dearest 76 = .ok (.getfield 29, 3) := by decide +kernel
theorem dX5_dearest_79 : decode cX5_dearest 79 = .ok (.invokevirtual 155, 3) := by decide +kernel
theorem dX5_dearest_82 : decode cX5_dearest 82 = .ok (.istore_n 3, 1) := by decide +kernel
theorem dX5_dearest_83 : decode cX5_dearest 83 = .ok (.iload 4, 2) := by decide +kernel
theorem dX5_dearest_85 : decode cX5_dearest 85 = .ok (.istore_n 2, 1) := by decide +kernel
theorem dX5_dearest_86 : decode cX5_dearest 86 = .ok (.iinc 4 1, 3) := by decide +kernel
theorem dX5_dearest_89 : decode cX5_dearest 89 = .ok (.goto (-59), 3) := by decide +kernel
theorem dX5_dearest_92 : decode cX5_dearest 92 = .ok (.iload_n 2, 1) := by decide +kernel
theorem dX5_dearest_93 : decode cX5_dearest 93 = .ok (.ireturn, 1) := by decide +kernel
theorem dX5_merge_0 : decode cX5_merge 0 = .ok (.aload_n 0, 1) := by decide +kernel
theorem dX5_merge_1 : decode cX5_merge 1 = .ok (.getfield 10, 3) := by decide +kernel
theorem dX5_merge_4 : decode cX5_merge 4 = .ok (.iload_n 1, 1) := by decide +kernel
theorem dX5_merge_5 : decode cX5_merge 5 = .ok (.invokevirtual 165, 3) := by decide +kernel
theorem dX5_merge_8 : decode cX5_merge 8 = .ok (.ifCond .eq 14, 3) := by decide +kernel
theorem dX5_merge_11 : decode cX5_merge 11 = .ok (.aload_n 0, 1) := by decide +kernel
theorem dX5_merge_12 : decode cX5_merge 12 = .ok (.getfield 10, 3) := by decide +kernel
theorem dX5_merge_15 : decode cX5_merge 15 = .ok (.iload_n 2, 1) := by decide +kernel
theorem dX5_merge_16 : decode cX5_merge 16 = .ok (.invokevirtual 165, 3) := by decide +kernel
theorem dX5_merge_19 : decode cX5_merge 19 = .ok (.ifCond .ne 9, 3) := by decide +kernel
theorem dX5_merge_22 : decode cX5_merge 22 = .ok (.aload_n 0, 1) := by decide +kernel
theorem dX5_merge_23 : decode cX5_merge 23 = .ok (.iconst 0, 1) := by decide +kernel
theorem dX5_merge_24 : decode cX5_merge 24 = .ok (.invokevirtual 73, 3) := by decide +kernel
theorem dX5_merge_27 : decode cX5_merge 27 = .ok (.ireturn, 1) := by decide +kernel
theorem dX5_merge_28 : decode cX5_merge 28 = .ok (.aload_n 0, 1) := by decide +kernel
theorem dX5_merge_29 : decode cX5_merge 29 = .ok (.iload_n 1, 1) := by decide +kernel
theorem dX5_merge_30 : decode cX5_merge 30 = .ok (.invokevirtual 136, 3) := by decide +kernel
theorem dX5_merge_33 : decode cX5_merge 33 = .ok (.ifCond .ne 9, 3) := by decide +kernel
theorem dX5_merge_36 : decode cX5_merge 36 = .ok (.aload_n 0, 1) := by decide +kernel
theorem dX5_merge_37 : decode cX5_merge 37 = .ok (.iconst 3, 1) := by decide +kernel
theorem dX5_merge_38 : decode cX5_merge 38 = .ok (.invokevirtual 73, 3) := by decide +kernel
theorem dX5_merge_41 : decode cX5_merge 41 = .ok (.ireturn, 1) := by decide +kernel
theorem dX5_merge_42 : decode cX5_merge 42 = .ok (.aload_n 0, 1) := by decide +kernel
theorem dX5_merge_43 : decode cX5_merge 43 = .ok (.iload_n 1, 1) := by decide +kernel
theorem dX5_merge_44 : decode cX5_merge 44 = .ok (.iload_n 2, 1) := by decide +kernel
theorem dX5_merge_45 : decode cX5_merge 45 = .ok (.iload_n 1, 1) := by decide +kernel
theorem dX5_merge_46 : decode cX5_merge 46 = .ok (.iconst (-1), 1) := by decide +kernel
theorem dX5_merge_47 : decode cX5_merge 47 = .ok (.ixor, 1) := by decide +kernel
theorem dX5_merge_48 : decode cX5_merge 48 = .ok (.iand, 1) := by decide +kernel
theorem dX5_merge_49 : decode cX5_merge 49 = .ok (.invokevirtual 168, 3) := by decide +kernel
theorem dX5_merge_52 : decode cX5_merge 52 = .ok (.ireturn, 1) := by decide +kernel
theorem dX5_kinds_0 : decode cX5_kinds 0 = .ok (.aload_n 0, 1) := by decide +kernel
theorem dX5_kinds_1 : decode cX5_kinds 1 = .ok (.getfield 10, 3) := by decide +kernel
theorem dX5_kinds_4 : decode cX5_kinds 4 = .ok (.iload_n 1, 1) := by decide +kernel
theorem dX5_kinds_5 : decode cX5_kinds 5 = .ok (.invokevirtual 85, 3) := by decide +kernel
theorem dX5_kinds_8 : decode cX5_kinds 8 = .ok (.ifCond .ne 9, 3) := by decide +kernel
theorem dX5_kinds_11 : decode cX5_kinds 11 = .ok (.aload_n 0, 1) := by decide +kernel
theorem dX5_kinds_12 : decode cX5_kinds 12 = .ok (.iconst 0, 1) := by decide +kernel
theorem dX5_kinds_13 : decode cX5_kinds 13 = .ok (.invokevirtual 73, 3) := by decide +kernel
theorem dX5_kinds_16 : decode cX5_kinds 16 = .ok (.ireturn, 1) := by decide +kernel
theorem dX5_kinds_17 : decode cX5_kinds 17 = .ok (.aload_n 0, 1) := by decide +kernel
theorem dX5_kinds_18 : decode cX5_kinds 18 = .ok (.iload_n 1, 1) := by decide +kernel
theorem dX5_kinds_19 : decode cX5_kinds 19 = .ok (.invokevirtual 188, 3) := by decide +kernel
theorem dX5_kinds_22 : decode cX5_kinds 22 = .ok (.iconst 0, 1) := by decide +kernel
theorem dX5_kinds_23 : decode cX5_kinds 23 = .ok (.istore_n 2, 1) := by decide +kernel
theorem dX5_kinds_24 : decode cX5_kinds 24 = .ok (.iconst 0, 1) := by decide +kernel
theorem dX5_kinds_25 : decode cX5_kinds 25 = .ok (.istore_n 3, 1) := by decide +kernel
theorem dX5_kinds_26 : decode cX5_kinds 26 = .ok (.iload_n 3, 1) := by decide +kernel
theorem dX5_kinds_27 : decode cX5_kinds 27 = .ok (.bipush 7, 2) := by decide +kernel
theorem dX5_kinds_29 : decode cX5_kinds 29 = .ok (.if_icmp .ge 30, 3) := by decide +kernel
theorem dX5_kinds_32 : decode cX5_kinds 32 = .ok (.aload_n 0, 1) := by decide +kernel
theorem dX5_kinds_33 : decode cX5_kinds 33 = .ok (.getfield 36, 3) := by decide +kernel
theorem dX5_kinds_36 : decode cX5_kinds 36 = .ok (.iload_n 3, 1) := by decide +kernel
theorem dX5_kinds_37 : decode cX5_kinds 37 = .ok (.putfield 192, 3) := by decide +kernel
theorem dX5_kinds_40 : decode cX5_kinds 40 = .ok (.aload_n 0, 1) := by decide +kernel
theorem dX5_kinds_41 : decode cX5_kinds 41 = .ok (.invokevirtual 195, 3) := by decide +kernel
theorem dX5_kinds_44 : decode cX5_kinds 44 = .ok (.ifCond .eq 9, 3) := by decide +kernel
theorem dX5_kinds_47 : decode cX5_kinds 47 = .ok (.iload_n 2, 1) := by decide +kernel
theorem dX5_kinds_48 : decode cX5_kinds 48 = .ok (.iconst 1, 1) := by decide +kernel
theorem dX5_kinds_49 : decode cX5_kinds 49 = .ok (.iload_n 3, 1) := by decide +kernel
theorem dX5_kinds_50 : decode cX5_kinds 50 = .ok (.ishl, 1) := by decide +kernel
theorem dX5_kinds_51 : decode cX5_kinds 51 = .ok (.ior, 1) := by decide +kernel
theorem dX5_kinds_52 : decode cX5_kinds 52 = .ok (.istore_n 2, 1) := by decide +kernel
theorem dX5_kinds_53 : decode cX5_kinds 53 = .ok (.iinc 3 1, 3) := by decide +kernel
theorem dX5_kinds_56 : decode cX5_kinds 56 = .ok (.goto (-30), 3) := by decide +kernel
theorem dX5_kinds_59 : decode cX5_kinds 59 = .ok (.iload_n 2, 1) := by decide +kernel
theorem dX5_kinds_60 : decode cX5_kinds 60 = .ok (.ireturn, 1) := by decide +kernel
theorem dX5_days_0 : decode cX5_days 0 = .ok (.aload_n 0, 1) := by decide +kernel
theorem dX5_days_1 : decode cX5_days 1 = .ok (.getfield 10, 3) := by decide +kernel
theorem dX5_days_4 : decode cX5_days 4 = .ok (.iload_n 1, 1) := by decide +kernel
theorem dX5_days_5 : decode cX5_days 5 = .ok (.invokevirtual 85, 3) := by decide +kernel
theorem dX5_days_8 : decode cX5_days 8 = .ok (.ifCond .ne 9, 3) := by decide +kernel
theorem dX5_days_11 : decode cX5_days 11 = .ok (.aload_n 0, 1) := by decide +kernel
theorem dX5_days_12 : decode cX5_days 12 = .ok (.iconst 0, 1) := by decide +kernel
theorem dX5_days_13 : decode cX5_days 13 = .ok (.invokevirtual 73, 3) := by decide +kernel
theorem dX5_days_16 : decode cX5_days 16 = .ok (.ireturn, 1) := by decide +kernel
theorem dX5_days_17 : decode cX5_days 17 = .ok (.aload_n 0, 1) := by decide +kernel
theorem dX5_days_18 : decode cX5_days 18 = .ok (.iload_n 1, 1) := by decide +kernel
theorem dX5_days_19 : decode cX5_days 19 = .ok (.invokevirtual 188, 3) := by decide +kernel
theorem dX5_days_22 : decode cX5_days 22 = .ok (.iconst 0, 1) := by decide +kernel
theorem dX5_days_23 : decode cX5_days 23 = .ok (.istore_n 2, 1) := by decide +kernel
theorem dX5_days_24 : decode cX5_days 24 = .ok (.bipush (-99), 2) := by decide +kernel
theorem dX5_days_26 : decode cX5_days 26 = .ok (.istore_n 3, 1) := by decide +kernel
theorem dX5_days_27 : decode cX5_days 27 = .ok (.iload_n 3, 1) := by decide +kernel
theorem dX5_days_28 : decode cX5_days 28 = .ok (.bipush 99, 2) := by decide +kernel
theorem dX5_days_30 : decode cX5_days 30 = .ok (.if_icmp .gt 27, 3) := by decide +kernel
theorem dX5_days_33 : decode cX5_days 33 = .ok (.aload_n 0, 1) := by decide +kernel
theorem dX5_days_34 : decode cX5_days 34 = .ok (.getfield 36, 3) := by decide +kernel
theorem dX5_days_37 : decode cX5_days 37 = .ok (.iload_n 3, 1) := by decide +kernel
theorem dX5_days_38 : decode cX5_days 38 = .ok (.putfield 199, 3) := by decide +kernel
theorem dX5_days_41 : decode cX5_days 41 = .ok (.aload_n 0, 1) := by decide +kernel
theorem dX5_days_42 : decode cX5_days 42 = .ok (.invokevirtual 195, 3) := by decide +kernel
theorem dX5_days_45 : decode cX5_days 45 = .ok (.ifCond .eq 6, 3) := by decide +kernel
theorem dX5_days_48 : decode cX5_days 48 = .ok (.iinc 2 1, 3) := by decide +kernel
theorem dX5_days_51 : decode cX5_days 51 = .ok (.iinc 3 1, 3) := by decide +kernel
theorem dX5_days_54 : decode cX5_days 54 = .ok (.goto (-27), 3) := by decide +kernel
theorem dX5_days_57 : decode cX5_days 57 = .ok (.iload_n 2, 1) := by decide +kernel
theorem dX5_days_58 : decode cX5_days 58 = .ok (.ireturn, 1) := by decide +kernel
theorem dX5_fewest_0 : decode cX5_fewest 0 = .ok (.aload_n 0, 1) := by decide +kernel
theorem dX5_fewest_1 : decode cX5_fewest 1 = .ok (.getfield 10, 3) := by decide +kernel
theorem dX5_fewest_4 : decode cX5_fewest 4 = .ok (.iload_n 1, 1) := by decide +kernel
theorem dX5_fewest_5 : decode cX5_fewest 5 = .ok (.invokevirtual 85, 3) := by decide +kernel
theorem dX5_fewest_8 : decode cX5_fewest 8 = .ok (.ifCond .ne 9, 3) := by decide +kernel
theorem dX5_fewest_11 : decode cX5_fewest 11 = .ok (.aload_n 0, 1) := by decide +kernel
theorem dX5_fewest_12 : decode cX5_fewest 12 = .ok (.iconst 0, 1) := by decide +kernel
theorem dX5_fewest_13 : decode cX5_fewest 13 = .ok (.invokevirtual 73, 3) := by decide +kernel
theorem dX5_fewest_16 : decode cX5_fewest 16 = .ok (.ireturn, 1) := by decide +kernel
theorem dX5_fewest_17 : decode cX5_fewest 17 = .ok (.aload_n 0, 1) := by decide +kernel
theorem dX5_fewest_18 : decode cX5_fewest 18 = .ok (.iload_n 1, 1) := by decide +kernel
theorem dX5_fewest_19 : decode cX5_fewest 19 = .ok (.invokevirtual 188, 3) := by decide +kernel
theorem dX5_fewest_22 : decode cX5_fewest 22 = .ok (.bipush (-99), 2) := by decide +kernel
theorem dX5_fewest_24 : decode cX5_fewest 24 = .ok (.istore_n 2, 1) := by decide +kernel
theorem dX5_fewest_25 : decode cX5_fewest 25 = .ok (.iload_n 2, 1) := by decide +kernel
theorem dX5_fewest_26 : decode cX5_fewest 26 = .ok (.bipush 99, 2) := by decide +kernel
theorem dX5_fewest_28 : decode cX5_fewest 28 = .ok (.if_icmp .gt 26, 3) := by decide +kernel
theorem dX5_fewest_31 : decode cX5_fewest 31 = .ok (.aload_n 0, 1) := by decide +kernel
theorem dX5_fewest_32 : decode cX5_fewest 32 = .ok (.getfield 36, 3) := by decide +kernel
theorem dX5_fewest_35 : decode cX5_fewest 35 = .ok (.iload_n 2, 1) := by decide +kernel
theorem dX5_fewest_36 : decode cX5_fewest 36 = .ok (.putfield 199, 3) := by decide +kernel
theorem dX5_fewest_39 : decode cX5_fewest 39 = .ok (.aload_n 0, 1) := by decide +kernel
theorem dX5_fewest_40 : decode cX5_fewest 40 = .ok (.invokevirtual 195, 3) := by decide +kernel
theorem dX5_fewest_43 : decode cX5_fewest 43 = .ok (.ifCond .eq 5, 3) := by decide +kernel
theorem dX5_fewest_46 : decode cX5_fewest 46 = .ok (.iload_n 2, 1) := by decide +kernel
theorem dX5_fewest_47 : decode cX5_fewest 47 = .ok (.ireturn, 1) := by decide +kernel
theorem dX5_fewest_48 : decode cX5_fewest 48 = .ok (.iinc 2 1, 3) := by decide +kernel
theorem dX5_fewest_51 : decode cX5_fewest 51 = .ok (.goto (-26), 3) := by decide +kernel
theorem dX5_fewest_54 : decode cX5_fewest 54 = .ok (.aload_n 0, 1) := by decide +kernel
theorem dX5_fewest_55 : decode cX5_fewest 55 = .ok (.iconst 3, 1) := by decide +kernel
theorem dX5_fewest_56 : decode cX5_fewest 56 = .ok (.invokevirtual 73, 3) := by decide +kernel
theorem dX5_fewest_59 : decode cX5_fewest 59 = .ok (.ireturn, 1) := by decide +kernel
theorem dX5_tight_0 : decode cX5_tight 0 = .ok (.aload_n 0, 1) := by decide +kernel
theorem dX5_tight_1 : decode cX5_tight 1 = .ok (.invokevirtual 126, 3) := by decide +kernel
theorem dX5_tight_4 : decode cX5_tight 4 = .ok (.istore_n 1, 1) := by decide +kernel
theorem dX5_tight_5 : decode cX5_tight 5 = .ok (.bipush 9, 2) := by decide +kernel
theorem dX5_tight_7 : decode cX5_tight 7 = .ok (.istore_n 2, 1) := by decide +kernel
theorem dX5_tight_8 : decode cX5_tight 8 = .ok (.iload_n 2, 1) := by decide +kernel
theorem dX5_tight_9 : decode cX5_tight 9 = .ok (.ifCond .lt 27, 3) := by decide +kernel
theorem dX5_tight_12 : decode cX5_tight 12 = .ok (.aload_n 0, 1) := by decide +kernel
theorem dX5_tight_13 : decode cX5_tight 13 = .ok (.iload_n 1, 1) := by decide +kernel
theorem dX5_tight_14 : decode cX5_tight 14 = .ok (.iload_n 2, 1) := by decide +kernel
theorem dX5_tight_15 : decode cX5_tight 15 = .ok (.invokevirtual 202, 3) := by decide +kernel
theorem dX5_tight_18 : decode cX5_tight 18 = .ok (.aload_n 0, 1) := by decide +kernel
theorem dX5_tight_19 : decode cX5_tight 19 = .ok (.getfield 29, 3) := by decide +kernel
theorem dX5_tight_22 : decode cX5_tight 22 = .ok (.getfield 205, 3) := by decide +kernel
theorem dX5_tight_25 : decode cX5_tight 25 = .ok (.ifCond .ne 5, 3) := by decide +kernel
theorem dX5_tight_28 : decode cX5_tight 28 = .ok (.iload_n 2, 1) := by decide +kernel
theorem dX5_tight_29 : decode cX5_tight 29 = .ok (.ireturn, 1) := by decide +kernel
theorem dX5_tight_30 : decode cX5_tight 30 = .ok (.iinc 2 (-1), 3) := by decide +kernel
theorem dX5_tight_33 : decode cX5_tight 33 = .ok (.goto (-25), 3) := by decide +kernel
theorem dX5_tight_36 : decode cX5_tight 36 = .ok (.aload_n 0, 1) := by decide +kernel
theorem dX5_tight_37 : decode cX5_tight 37 = .ok (.iconst 3, 1) := by decide +kernel
theorem dX5_tight_38 : decode cX5_tight 38 = .ok (.invokevirtual 73, 3) := by decide +kernel
theorem dX5_tight_41 : decode cX5_tight 41 = .ok (.ireturn, 1) := by decide +kernel
theorem dX5_loses_0 : decode cX5_loses 0 = .ok (.iload_n 1, 1) := by decide +kernel
theorem dX5_loses_1 : decode cX5_loses 1 = .ok (.iconst 1, 1) := by decide +kernel
theorem dX5_loses_2 : decode cX5_loses 2 = .ok (.bipush 20, 2) := by decide +kernel
theorem dX5_loses_4 : decode cX5_loses 4 = .ok (.invokestatic 69, 3) := by decide +kernel
theorem dX5_loses_7 : decode cX5_loses 7 = .ok (.ifCond .ne 9, 3) := by decide +kernel
theorem dX5_loses_10 : decode cX5_loses 10 = .ok (.aload_n 0, 1) := by decide +kernel
theorem dX5_loses_11 : decode cX5_loses 11 = .ok (.iconst 0, 1) := by decide +kernel
theorem dX5_loses_12 : decode cX5_loses 12 = .ok (.invokevirtual 73, 3) := by decide +kernel
theorem dX5_loses_15 : decode cX5_loses 15 = .ok (.ireturn, 1) := by decide +kernel
theorem dX5_loses_16 : decode cX5_loses 16 = .ok (.iconst 0, 1) := by decide +kernel
theorem dX5_loses_17 : decode cX5_loses 17 = .ok (.istore_n 2, 1) := by decide +kernel
theorem dX5_loses_18 : decode cX5_loses 18 = .ok (.iload_n 2, 1) := by decide +kernel
theorem dX5_loses_19 : decode cX5_loses 19 = .ok (.iload_n 1, 1) := by decide +kernel
theorem dX5_loses_20 : decode cX5_loses 20 = .ok (.if_icmp .ge 44, 3) := by decide +kernel
theorem dX5_loses_23 : decode cX5_loses 23 = .ok (.aload_n 0, 1) := by decide +kernel
theorem dX5_loses_24 : decode cX5_loses 24 = .ok (.getfield 10, 3) := by decide +kernel
theorem dX5_loses_27 : decode cX5_loses 27 = .ok (.invokevirtual 208, 3) := by decide +kernel
theorem dX5_loses_30 : decode cX5_loses 30 = .ok (.bipush 16, 2) := by decide +kernel
theorem dX5_loses_32 : decode cX5_loses 32 = .ok (.irem, 1) := by decide +kernel
theorem dX5_loses_33 : decode cX5_loses 33 = .ok (.istore_n 3, 1) := by decide +kernel
theorem dX5_loses_34 : decode cX5_loses 34 = .ok (.aload_n 0, 1) := by decide +kernel
theorem dX5_loses_35 : decode cX5_loses 35 = .ok (.getfield 10, 3) := by decide +kernel
theorem dX5_loses_38 : decode cX5_loses 38 = .ok (.iload_n 3, 1) := by decide +kernel
theorem dX5_loses_39 : decode cX5_loses 39 = .ok (.invokevirtual 85, 3) := by decide +kernel
theorem dX5_loses_42 : decode cX5_loses 42 = .ok (.ifCond .eq 16, 3) := by decide +kernel
theorem dX5_loses_45 : decode cX5_loses 45 = .ok (.aload_n 0, 1) := by decide +kernel
theorem dX5_loses_46 : decode cX5_loses 46 = .ok (.getfield 10, 3) := by decide +kernel
theorem dX5_loses_49 : decode cX5_loses 49 = .ok (.getfield 88, 3) := by decide +kernel
theorem dX5_loses_52 : decode cX5_loses 52 = .ok (.iload_n 3, 1) := by decide +kernel
theorem dX5_loses_53 : decode cX5_loses 53 = .ok (.aaload, 1) := by decide +kernel
theorem dX5_loses_54 : decode cX5_loses 54 = .ok (.iconst 1, 1) := by decide +kernel
theorem dX5_loses_55 : decode cX5_loses 55 = .ok (.putfield 211, 3) := by decide +kernel
theorem dX5_loses_58 : decode cX5_loses 58 = .ok (.iinc 2 1, 3) := by decide +kernel
theorem dX5_loses_61 : decode cX5_loses 61 = .ok (.goto (-43), 3) := by decide +kernel
theorem dX5_loses_64 : decode cX5_loses 64 = .ok (.aload_n 0, 1) := by decide +kernel
theorem dX5_loses_65 : decode cX5_loses 65 = .ok (.getfield 10, 3) := by decide +kernel
theorem dX5_loses_68 : decode cX5_loses 68 = .ok (.invokevirtual 133, 3) := by decide +kernel
theorem dX5_loses_71 : decode cX5_loses 71 = .ok (.invokestatic 171, 3) := by decide +kernel
theorem dX5_loses_74 : decode cX5_loses 74 = .ok (.ireturn, 1) := by decide +kernel
theorem dX5_odds_0 : decode cX5_odds 0 = .ok (.iload_n 1, 1) := by decide +kernel
theorem dX5_odds_1 : decode cX5_odds 1 = .ok (.iconst 0, 1) := by decide +kernel
theorem dX5_odds_2 : decode cX5_odds 2 = .ok (.bipush 14, 2) := by decide +kernel
theorem dX5_odds_4 : decode cX5_odds 4 = .ok (.invokestatic 69, 3) := by decide +kernel
theorem dX5_odds_7 : decode cX5_odds 7 = .ok (.ifCond .eq 12, 3) := by decide +kernel
theorem dX5_odds_10 : decode cX5_odds 10 = .ok (.iload_n 2, 1) := by decide +kernel
theorem dX5_odds_11 : decode cX5_odds 11 = .ok (.iconst 0, 1) := by decide +kernel
theorem dX5_odds_12 : decode cX5_odds 12 = .ok (.iconst 1, 1) := by decide +kernel
theorem dX5_odds_13 : decode cX5_odds 13 = .ok (.invokestatic 69, 3) := by decide +kernel
theorem dX5_odds_16 : decode cX5_odds 16 = .ok (.ifCond .ne 10, 3) := by decide +kernel
theorem dX5_odds_19 : decode cX5_odds 19 = .ok (.aload_n 0, 1) := by decide +kernel
theorem dX5_odds_20 : decode cX5_odds 20 = .ok (.iconst 0, 1) := by decide +kernel
theorem dX5_odds_21 : decode cX5_odds 21 = .ok (.invokevirtual 73, 3) := by decide +kernel
theorem dX5_odds_24 : decode cX5_odds 24 = .ok (.i2l, 1) := by decide +kernel
theorem dX5_odds_25 : decode cX5_odds 25 = .ok (.lreturn, 1) := by decide +kernel
theorem dX5_odds_26 : decode cX5_odds 26 = .ok (.bipush 16, 2) := by decide +kernel
theorem dX5_odds_28 : decode cX5_odds 28 = .ok (.aload_n 0, 1) := by decide +kernel
theorem dX5_odds_29 : decode cX5_odds 29 = .ok (.invokevirtual 126, 3) := by decide +kernel
theorem dX5_odds_32 : decode cX5_odds 32 = .ok (.invokestatic 171, 3) := by decide +kernel
theorem dX5_odds_35 : decode cX5_odds 35 = .ok (.isub, 1) := by decide +kernel
theorem dX5_odds_36 : decode cX5_odds 36 = .ok (.istore_n 3, 1) := by decide +kernel
theorem dX5_odds_37 : decode cX5_odds 37 = .ok (.bipush 16, 2) := by decide +kernel
theorem dX5_odds_39 : decode cX5_odds 39 = .ok (.istore 4, 2) := by decide +kernel
theorem dX5_odds_41 : decode cX5_odds 41 = .ok (.iconst 0, 1) := by decide +kernel
theorem dX5_odds_42 : decode cX5_odds 42 = .ok (.istore 5, 2) := by decide +kernel
theorem dX5_odds_44 : decode cX5_odds 44 = .ok (.iload 5, 2) := by decide +kernel
theorem dX5_odds_46 : decode cX5_odds 46 = .ok (.iconst 4, 1) := by decide +kernel
theorem dX5_odds_47 : decode cX5_odds 47 = .ok (.if_icmp .ge 25, 3) := by decide +kernel
theorem dX5_odds_50 : decode cX5_odds 50 = .ok (.iload_n 3, 1) := by decide +kernel
theorem dX5_odds_51 : decode cX5_odds 51 = .ok (.iconst 2, 1) := by decide +kernel
theorem dX5_odds_52 : decode cX5_odds 52 = .ok (.irem, 1) := by decide +kernel
theorem dX5_odds_53 : decode cX5_odds 53 = .ok (.ifCond .ne 19, 3) := by decide +kernel
theorem dX5_odds_56 : decode cX5_odds 56 = .ok (.iload_n 3, 1) := by decide +kernel
theorem dX5_odds_57 : decode cX5_odds 57 = .ok (.iconst 2, 1) := by decide +kernel
theorem dX5_odds_58 : decode cX5_odds 58 = .ok (.idiv, 1) := by decide +kernel
theorem dX5_odds_59 : decode cX5_odds 59 = .ok (.istore_n 3, 1) := by decide +kernel
theorem dX5_odds_60 : decode cX5_odds 60 = .ok (.iload 4, 2) := by decide +kernel
theorem dX5_odds_62 : decode cX5_odds 62 = .ok (.iconst 2, 1) := by decide +kernel
theorem dX5_odds_63 : decode cX5_odds 63 = .ok (.idiv, 1) := by decide +kernel
theorem dX5_odds_64 : decode cX5_odds 64 = .ok (.istore 4, 2) := by decide +kernel
theorem dX5_odds_66 : decode cX5_odds 66 = .ok (.iinc 5 1, 3) := by decide +kernel
theorem dX5_odds_69 : decode cX5_odds 69 = .ok (.goto (-25), 3) := by decide +kernel
theorem dX5_odds_72 : decode cX5_odds 72 = .ok (.lconst 1, 1) := by decide +kernel
theorem dX5_odds_73 : decode cX5_odds 73 = .ok (.lstore 5, 2) := by decide +kernel
theorem dX5_odds_75 : decode cX5_odds 75 = .ok (.iconst 0, 1) := by decide +kernel
theorem dX5_odds_76 : decode cX5_odds 76 = .ok (.istore 7, 2) := by decide +kernel
theorem dX5_odds_78 : decode cX5_odds 78 = .ok (.iload 7, 2) := by decide +kernel
theorem dX5_odds_80 : decode cX5_odds 80 = .ok (.iload_n 1, 1) := by decide +kernel
theorem dX5_odds_81 : decode cX5_odds 81 = .ok (.if_icmp .ge 26, 3) := by decide +kernel
theorem dX5_odds_84 : decode cX5_odds 84 = .ok (.lload 5, 2) := by decide +kernel
theorem dX5_odds_86 : decode cX5_odds 86 = .ok (.iload_n 2, 1) := by decide +kernel
theorem dX5_odds_87 : decode cX5_odds 87 = .ok (.ifCond .ne 8, 3) := by decide +kernel
theorem dX5_odds_90 : decode cX5_odds 90 = .ok (.iload_n 3, 1) := by decide +kernel
theorem dX5_odds_91 : decode cX5_odds 91 = .ok (.i2l, 1) := by decide +kernel
theorem dX5_odds_92 : decode cX5_odds 92 = .ok (.goto 6, 3) := by decide +kernel
theorem dX5_odds_95 : decode cX5_odds 95 = .ok (.iload 4, 2) := by decide +kernel
theorem dX5_odds_97 : decode cX5_odds 97 = .ok (.i2l, 1) := by decide +kernel
theorem dX5_odds_98 : decode cX5_odds 98 = .ok (.lmul, 1) := by decide +kernel
theorem dX5_odds_99 : decode cX5_odds 99 = .ok (.lstore 5, 2) := by decide +kernel
theorem dX5_odds_101 : decode cX5_odds 101 = .ok (.iinc 7 1, 3) := by decide +kernel
theorem dX5_odds_104 : decode cX5_odds 104 = .ok (.goto (-26), 3) := by decide +kernel
theorem dX5_odds_107 : decode cX5_odds 107 = .ok (.lload 5, 2) := by decide +kernel
theorem dX5_odds_109 : decode cX5_odds 109 = .ok (.lreturn, 1) := by decide +kernel
theorem dX5_seed_0 : decode cX5_seed 0 = .ok (.aload_n 0, 1) := by decide +kernel
theorem dX5_seed_1 : decode cX5_seed 1 = .ok (.getfield 10, 3) := by decide +kernel
theorem dX5_seed_4 : decode cX5_seed 4 = .ok (.getfield 214, 3) := by decide +kernel
theorem dX5_seed_7 : decode cX5_seed 7 = .ok (.istore_n 2, 1) := by decide +kernel
theorem dX5_seed_8 : decode cX5_seed 8 = .ok (.aload_n 0, 1) := by decide +kernel
theorem dX5_seed_9 : decode cX5_seed 9 = .ok (.getfield 10, 3) := by decide +kernel
theorem dX5_seed_12 : decode cX5_seed 12 = .ok (.iload_n 1, 1) := by decide +kernel
theorem dX5_seed_13 : decode cX5_seed 13 = .ok (.putfield 214, 3) := by decide +kernel
theorem dX5_seed_16 : decode cX5_seed 16 = .ok (.iload_n 2, 1) := by decide +kernel
theorem dX5_seed_17 : decode cX5_seed 17 = .ok (.ireturn, 1) := by decide +kernel
theorem dX5_feed_0 : decode cX5_feed 0 = .ok (.iload_n 2, 1) := by decide +kernel
theorem dX5_feed_1 : decode cX5_feed 1 = .ok (.iconst 1, 1) := by decide +kernel
theorem dX5_feed_2 : decode cX5_feed 2 = .ok (.iconst 4, 1) := by decide +kernel
theorem dX5_feed_3 : decode cX5_feed 3 = .ok (.invokestatic 69, 3) := by decide +kernel
theorem dX5_feed_6 : decode cX5_feed 6 = .ok (.ifCond .ne 9, 3) := by decide +kernel
theorem dX5_feed_9 : decode cX5_feed 9 = .ok (.aload_n 0, 1) := by decide +kernel
theorem dX5_feed_10 : decode cX5_feed 10 = .ok (.iconst 0, 1) := by decide +kernel
theorem dX5_feed_11 : decode cX5_feed 11 = .ok (.invokevirtual 73, 3) := by decide +kernel
theorem dX5_feed_14 : decode cX5_feed 14 = .ok (.ireturn, 1) := by decide +kernel
theorem dX5_feed_15 : decode cX5_feed 15 = .ok (.aload_n 0, 1) := by decide +kernel
theorem dX5_feed_16 : decode cX5_feed 16 = .ok (.getfield 43, 3) := by decide +kernel
theorem dX5_feed_19 : decode cX5_feed 19 = .ok (.getfield 217, 3) := by decide +kernel
theorem dX5_feed_22 : decode cX5_feed 22 = .ok (.iload_n 2, 1) := by decide +kernel
theorem dX5_feed_23 : decode cX5_feed 23 = .ok (.iadd, 1) := by decide +kernel
theorem dX5_feed_24 : decode cX5_feed 24 = .ok (.bipush 120, 2) := by decide +kernel
theorem dX5_feed_26 : decode cX5_feed 26 = .ok (.if_icmp .le 9, 3) := by decide +kernel
theorem dX5_feed_29 : decode cX5_feed 29 = .ok (.aload_n 0, 1) := by decide +kernel
theorem dX5_feed_30 : decode cX5_feed 30 = .ok (.iconst 1, 1) := by decide +kernel
theorem dX5_feed_31 : decode cX5_feed 31 = .ok (.invokevirtual 73, 3) := by decide +kernel
theorem dX5_feed_34 : decode cX5_feed 34 = .ok (.ireturn, 1) := by decide +kernel
theorem dX5_feed_35 : decode cX5_feed 35 = .ok (.iload_n 2, 1) := by decide +kernel
theorem dX5_feed_36 : decode cX5_feed 36 = .ok (.iconst 1, 1) := by decide +kernel
theorem dX5_feed_37 : decode cX5_feed 37 = .ok (.isub, 1) := by decide +kernel
theorem dX5_feed_38 : decode cX5_feed 38 = .ok (.istore_n 3, 1) := by decide +kernel
theorem dX5_feed_39 : decode cX5_feed 39 = .ok (.iload_n 3, 1) := by decide +kernel
theorem dX5_feed_40 : decode cX5_feed 40 = .ok (.ifCond .lt 26, 3) := by decide +kernel
theorem dX5_feed_43 : decode cX5_feed 43 = .ok (.aload_n 0, 1) := by decide +kernel
theorem dX5_feed_44 : decode cX5_feed 44 = .ok (.getfield 43, 3) := by decide +kernel
theorem dX5_feed_47 : decode cX5_feed 47 = .ok (.iload_n 1, 1) := by decide +kernel
theorem dX5_feed_48 : decode cX5_feed 48 = .ok (.bipush 8, 2) := by decide +kernel
theorem dX5_feed_50 : decode cX5_feed 50 = .ok (.iload_n 3, 1) := by decide +kernel
theorem dX5_feed_51 : decode cX5_feed 51 = .ok (.imul, 1) := by decide +kernel
theorem dX5_feed_52 : decode cX5_feed 52 = .ok (.iushr, 1) := by decide +kernel
theorem dX5_feed_53 : decode cX5_feed 53 = .ok (.sipush 255, 3) := by decide +kernel
theorem dX5_feed_56 : decode cX5_feed 56 = .ok (.iand, 1) := by decide +kernel
theorem dX5_feed_57 : decode cX5_feed 57 = .ok (.invokevirtual 220, 3) := by decide +kernel
theorem dX5_feed_60 : decode cX5_feed 60 = .ok (.iinc 3 (-1), 3) := by decide +kernel
theorem dX5_feed_63 : decode cX5_feed 63 = .ok (.goto (-24), 3) := by decide +kernel
theorem dX5_feed_66 : decode cX5_feed 66 = .ok (.aload_n 0, 1) := by decide +kernel
theorem dX5_feed_67 : decode cX5_feed 67 = .ok (.getfield 43, 3) := by decide +kernel
theorem dX5_feed_70 : decode cX5_feed 70 = .ok (.getfield 217, 3) := by decide +kernel
theorem dX5_feed_73 : decode cX5_feed 73 = .ok (.ireturn, 1) := by decide +kernel
theorem dX5_wipe_0 : decode cX5_wipe 0 = .ok (.aload_n 0, 1) := by decide +kernel
theorem dX5_wipe_1 : decode cX5_wipe 1 = .ok (.getfield 43, 3) := by decide +kernel
theorem dX5_wipe_4 : decode cX5_wipe 4 = .ok (.getfield 217, 3) := by decide +kernel
theorem dX5_wipe_7 : decode cX5_wipe 7 = .ok (.istore_n 1, 1) := by decide +kernel
theorem dX5_wipe_8 : decode cX5_wipe 8 = .ok (.aload_n 0, 1) := by decide +kernel
theorem dX5_wipe_9 : decode cX5_wipe 9 = .ok (.getfield 43, 3) := by decide +kernel
theorem dX5_wipe_12 : decode cX5_wipe 12 = .ok (.iconst 0, 1) := by decide +kernel
theorem dX5_wipe_13 : decode cX5_wipe 13 = .ok (.putfield 217, 3) := by decide +kernel
theorem dX5_wipe_16 : decode cX5_wipe 16 = .ok (.iload_n 1, 1) := by decide +kernel
theorem dX5_wipe_17 : decode cX5_wipe 17 = .ok (.ireturn, 1) := by decide +kernel
theorem dX5_text_0 : decode cX5_text 0 = .ok (.aload_n 0, 1) := by decide +kernel
theorem dX5_text_1 : decode cX5_text 1 = .ok (.getfield 16, 3) := by decide +kernel
theorem dX5_text_4 : decode cX5_text 4 = .ok (.aload_n 0, 1) := by decide +kernel
theorem dX5_text_5 : decode cX5_text 5 = .ok (.getfield 10, 3) := by decide +kernel
theorem dX5_text_8 : decode cX5_text 8 = .ok (.invokevirtual 223, 3) := by decide +kernel
theorem dX5_text_11 : decode cX5_text 11 = .ok (.aload_n 0, 1) := by decide +kernel
theorem dX5_text_12 : decode cX5_text 12 = .ok (.getfield 43, 3) := by decide +kernel
theorem dX5_text_15 : decode cX5_text 15 = .ok (.aload_n 0, 1) := by decide +kernel
theorem dX5_text_16 : decode cX5_text 16 = .ok (.getfield 16, 3) := by decide +kernel
theorem dX5_text_19 : decode cX5_text 19 = .ok (.invokevirtual 227, 3) := by decide +kernel
theorem dX5_text_22 : decode cX5_text 22 = .ok (.istore_n 1, 1) := by decide +kernel
theorem dX5_text_23 : decode cX5_text 23 = .ok (.iload_n 1, 1) := by decide +kernel
theorem dX5_text_24 : decode cX5_text 24 = .ok (.ifCond .lt 14, 3) := by decide +kernel
theorem dX5_text_27 : decode cX5_text 27 = .ok (.aload_n 0, 1) := by decide +kernel
theorem dX5_text_28 : decode cX5_text 28 = .ok (.getfield 10, 3) := by decide +kernel
theorem dX5_text_31 : decode cX5_text 31 = .ok (.aload_n 0, 1) := by decide +kernel
theorem dX5_text_32 : decode cX5_text 32 = .ok (.getfield 16, 3) := by decide +kernel
theorem dX5_text_35 : decode cX5_text 35 = .ok (.invokevirtual 223, 3) := by decide +kernel
theorem dX5_text_38 : decode cX5_text 38 = .ok (.aload_n 0, 1) := by decide +kernel
theorem dX5_text_39 : decode cX5_text 39 = .ok (.getfield 43, 3) := by decide +kernel
theorem dX5_text_42 : decode cX5_text 42 = .ok (.iconst 0, 1) := by decide +kernel
theorem dX5_text_43 : decode cX5_text 43 = .ok (.putfield 217, 3) := by decide +kernel
theorem dX5_text_46 : decode cX5_text 46 = .ok (.iload_n 1, 1) := by decide +kernel
theorem dX5_text_47 : decode cX5_text 47 = .ok (.ireturn, 1) := by decide +kernel
theorem dX5_hold_0 : decode cX5_hold 0 = .ok (.iload_n 1, 1) := by decide +kernel
theorem dX5_hold_1 : decode cX5_hold 1 = .ok (.iconst 0, 1) := by decide +kernel
theorem dX5_hold_2 : decode cX5_hold 2 = .ok (.bipush 9, 2) := by decide +kernel
theorem dX5_hold_4 : decode cX5_hold 4 = .ok (.invokestatic 69, 3) := by decide +kernel
theorem dX5_hold_7 : decode cX5_hold 7 = .ok (.ifCond .eq 19, 3) := by decide +kernel
theorem dX5_hold_10 : decode cX5_hold 10 = .ok (.iload_n 2, 1) := by decide +kernel
theorem dX5_hold_11 : decode cX5_hold 11 = .ok (.iconst (-1), 1) := by decide +kernel
theorem dX5_hold_12 : decode cX5_hold 12 = .ok (.if_icmp .eq 20, 3) := by decide +kernel
theorem dX5_hold_15 : decode cX5_hold 15 = .ok (.aload_n 0, 1) := by decide +kernel
theorem dX5_hold_16 : decode cX5_hold 16 = .ok (.getfield 10, 3) := by decide +kernel
theorem dX5_hold_19 : decode cX5_hold 19 = .ok (.iload_n 2, 1) := by decide +kernel
theorem dX5_hold_20 : decode cX5_hold 20 = .ok (.invokevirtual 85, 3) := by decide +kernel
theorem dX5_hold_23 : decode cX5_hold 23 = .ok (.ifCond .ne 9, 3) := by decide +kernel
theorem dX5_hold_26 : decode cX5_hold 26 = .ok (.aload_n 0, 1) := by decide +kernel
theorem dX5_hold_27 : decode cX5_hold 27 = .ok (.iconst 0, 1) := by decide +kernel
theorem dX5_hold_28 : decode cX5_hold 28 = .ok (.invokevirtual 73, 3) := by decide +kernel
theorem dX5_hold_31 : decode cX5_hold 31 = .ok (.ireturn, 1) := by decide +kernel
theorem dX5_hold_32 : decode cX5_hold 32 = .ok (.aload_n 0, 1) := by decide +kernel
theorem dX5_hold_33 : decode cX5_hold 33 = .ok (.getfield 10, 3) := by decide +kernel
theorem dX5_hold_36 : decode cX5_hold 36 = .ok (.getfield 231, 3) := by decide +kernel
theorem dX5_hold_39 : decode cX5_hold 39 = .ok (.iload_n 1, 1) := by decide +kernel
theorem dX5_hold_40 : decode cX5_hold 40 = .ok (.iload_n 2, 1) := by decide +kernel
theorem dX5_hold_41 : decode cX5_hold 41 = .ok (.iastore, 1) := by decide +kernel
theorem dX5_hold_42 : decode cX5_hold 42 = .ok (.iconst 1, 1) := by decide +kernel
theorem dX5_hold_43 : decode cX5_hold 43 = .ok (.ireturn, 1) := by decide +kernel
theorem dX5_as_0 : decode cX5_as 0 = .ok (.iload_n 1, 1) := by decide +kernel
theorem dX5_as_1 : decode cX5_as 1 = .ok (.iconst 0, 1) := by decide +kernel
theorem dX5_as_2 : decode cX5_as 2 = .ok (.bipush 9, 2) := by decide +kernel
theorem dX5_as_4 : decode cX5_as 4 = .ok (.invokestatic 69, 3) := by decide +kernel
theorem dX5_as_7 : decode cX5_as 7 = .ok (.ifCond .eq 10, 3) := by decide +kernel
theorem dX5_as_10 : decode cX5_as 10 = .ok (.iload_n 2, 1) := by decide +kernel
theorem dX5_as_11 : decode cX5_as 11 = .ok (.invokestatic 58, 3) := by decide +kernel
theorem dX5_as_14 : decode cX5_as 14 = .ok (.ifCond .ne 9, 3) := by decide +kernel
theorem dX5_as_17 : decode cX5_as 17 = .ok (.aload_n 0, 1) := by decide +kernel
theorem dX5_as_18 : decode cX5_as 18 = .ok (.iconst 0, 1) := by decide +kernel
theorem dX5_as_19 : decode cX5_as 19 = .ok (.invokevirtual 73, 3) := by decide +kernel
theorem dX5_as_22 : decode cX5_as 22 = .ok (.ireturn, 1) := by decide +kernel
theorem dX5_as_23 : decode cX5_as 23 = .ok (.aload_n 0, 1) := by decide +kernel
theorem dX5_as_24 : decode cX5_as 24 = .ok (.getfield 10, 3) := by decide +kernel
theorem dX5_as_27 : decode cX5_as 27 = .ok (.getfield 231, 3) := by decide +kernel
theorem dX5_as_30 : decode cX5_as 30 = .ok (.iload_n 1, 1) := by decide +kernel
theorem dX5_as_31 : decode cX5_as 31 = .ok (.iaload, 1) := by decide +kernel
theorem dX5_as_32 : decode cX5_as 32 = .ok (.istore_n 3, 1) := by decide +kernel
theorem dX5_as_33 : decode cX5_as 33 = .ok (.aload_n 0, 1) := by decide +kernel
theorem dX5_as_34 : decode cX5_as 34 = .ok (.getfield 10, 3) := by decide +kernel
theorem dX5_as_37 : decode cX5_as 37 = .ok (.iload_n 3, 1) := by decide +kernel
theorem dX5_as_38 : decode cX5_as 38 = .ok (.invokevirtual 85, 3) := by decide +kernel
theorem dX5_as_41 : decode cX5_as 41 = .ok (.ifCond .ne 9, 3) := by decide +kernel
theorem dX5_as_44 : decode cX5_as 44 = .ok (.aload_n 0, 1) := by decide +kernel
theorem dX5_as_45 : decode cX5_as 45 = .ok (.iconst 5, 1) := by decide +kernel
theorem dX5_as_46 : decode cX5_as 46 = .ok (.invokevirtual 73, 3) := by decide +kernel
theorem dX5_as_49 : decode cX5_as 49 = .ok (.ireturn, 1) := by decide +kernel
theorem dX5_as_50 : decode cX5_as 50 = .ok (.aload_n 0, 1) := by decide +kernel
theorem dX5_as_51 : decode cX5_as 51 = .ok (.getfield 10, 3) := by decide +kernel
theorem dX5_as_54 : decode cX5_as 54 = .ok (.getfield 88, 3) := by decide +kernel
theorem dX5_as_57 : decode cX5_as 57 = .ok (.iload_n 3, 1) := by decide +kernel
theorem dX5_as_58 : decode cX5_as 58 = .ok (.aaload, 1) := by decide +kernel
theorem dX5_as_59 : decode cX5_as 59 = .ok (.getfield 192, 3) := by decide +kernel
theorem dX5_as_62 : decode cX5_as 62 = .ok (.iload_n 2, 1) := by decide +kernel
theorem dX5_as_63 : decode cX5_as 63 = .ok (.invokestatic 234, 3) := by decide +kernel
theorem dX5_as_66 : decode cX5_as 66 = .ok (.ifCond .ne 9, 3) := by decide +kernel
theorem dX5_as_69 : decode cX5_as 69 = .ok (.aload_n 0, 1) := by decide +kernel
theorem dX5_as_70 : decode cX5_as 70 = .ok (.iconst 2, 1) := by decide +kernel
theorem dX5_as_71 : decode cX5_as 71 = .ok (.invokevirtual 73, 3) := by decide +kernel
theorem dX5_as_74 : decode cX5_as 74 = .ok (.ireturn, 1) := by decide +kernel
theorem dX5_as_75 : decode cX5_as 75 = .ok (.iload_n 3, 1) := by decide +kernel
theorem dX5_as_76 : decode cX5_as 76 = .ok (.ireturn, 1) := by decide +kernel
theorem dX5_sheet_0 : decode cX5_sheet 0 = .ok (.iload_n 1, 1) := by decide +kernel
theorem dX5_sheet_1 : decode cX5_sheet 1 = .ok (.invokestatic 237, 3) := by decide +kernel
theorem dX5_sheet_4 : decode cX5_sheet 4 = .ok (.ifCond .eq 25, 3) := by decide +kernel
theorem dX5_sheet_7 : decode cX5_sheet 7 = .ok (.iload_n 2, 1) := by decide +kernel
theorem dX5_sheet_8 : decode cX5_sheet 8 = .ok (.ifCond .eq 27, 3) := by decide +kernel
theorem dX5_sheet_11 : decode cX5_sheet 11 = .ok (.iload_n 2, 1) := by decide +kernel
theorem dX5_sheet_12 : decode cX5_sheet 12 = .ok (.bipush 8, 2) := by decide +kernel
theorem dX5_sheet_14 : decode cX5_sheet 14 = .ok (.if_icmp .eq 21, 3) := by decide +kernel
theorem dX5_sheet_17 : decode cX5_sheet 17 = .ok (.iload_n 2, 1) := by decide +kernel
theorem dX5_sheet_18 : decode cX5_sheet 18 = .ok (.bipush 16, 2) := by decide +kernel
theorem dX5_sheet_20 : decode cX5_sheet 20 = .ok (.if_icmp .eq 15, 3) := by decide +kernel
theorem dX5_sheet_23 : decode cX5_sheet 23 = .ok (.iload_n 2, 1) := by decide +kernel
theorem dX5_sheet_24 : decode cX5_sheet 24 = .ok (.bipush 32, 2) := by decide +kernel
theorem dX5_sheet_26 : decode cX5_sheet 26 = .ok (.if_icmp .eq 9, 3) := by decide +kernel
theorem dX5_sheet_29 : decode cX5_sheet 29 = .ok (.aload_n 0, 1) := by decide +kernel
theorem dX5_sheet_30 : decode cX5_sheet 30 = .ok (.iconst 0, 1) := by decide +kernel
theorem dX5_sheet_31 : decode cX5_sheet 31 = .ok (.invokevirtual 73, 3) := by decide +kernel
theorem dX5_sheet_34 : decode cX5_sheet 34 = .ok (.ireturn, 1) := by decide +kernel
theorem dX5_sheet_35 : decode cX5_sheet 35 = .ok (.iload_n 3, 1) := by decide +kernel
theorem dX5_sheet_36 : decode cX5_sheet 36 = .ok (.ifCond .ge 10, 3) := by decide +kernel
theorem dX5_sheet_39 : decode cX5_sheet 39 = .ok (.aload_n 0, 1) := by decide +kernel
theorem dX5_sheet_40 : decode cX5_sheet 40 = .ok (.bipush 6, 2) := by decide +kernel
theorem dX5_sheet_42 : decode cX5_sheet 42 = .ok (.invokevirtual 73, 3) := by decide +kernel
theorem dX5_sheet_45 : decode cX5_sheet 45 = .ok (.ireturn, 1) := by decide +kernel
theorem dX5_sheet_46 : decode cX5_sheet 46 = .ok (.iload_n 3, 1) := by decide +kernel
theorem dX5_sheet_47 : decode cX5_sheet 47 = .ok (.bipush 40, 2) := by decide +kernel
theorem dX5_sheet_49 : decode cX5_sheet 49 = .ok (.if_icmp .le 9, 3) := by decide +kernel
theorem dX5_sheet_52 : decode cX5_sheet 52 = .ok (.aload_n 0, 1) := by decide +kernel
theorem dX5_sheet_53 : decode cX5_sheet 53 = .ok (.iconst 0, 1) := by decide +kernel
theorem dX5_sheet_54 : decode cX5_sheet 54 = .ok (.invokevirtual 73, 3) := by decide +kernel
theorem dX5_sheet_57 : decode cX5_sheet 57 = .ok (.ireturn, 1) := by decide +kernel
theorem dX5_sheet_58 : decode cX5_sheet 58 = .ok (.aload_n 0, 1) := by decide +kernel
theorem dX5_sheet_59 : decode cX5_sheet 59 = .ok (.getfield 49, 3) := by decide +kernel
theorem dX5_sheet_62 : decode cX5_sheet 62 = .ok (.iload_n 1, 1) := by decide +kernel
theorem dX5_sheet_63 : decode cX5_sheet 63 = .ok (.aaload, 1) := by decide +kernel
theorem dX5_sheet_64 : decode cX5_sheet 64 = .ok (.iload_n 2, 1) := by decide +kernel
theorem dX5_sheet_65 : decode cX5_sheet 65 = .ok (.iload_n 2, 1) := by decide +kernel
theorem dX5_sheet_66 : decode cX5_sheet 66 = .ok (.ifCond .ne 7, 3) := by decide +kernel
theorem dX5_sheet_69 : decode cX5_sheet 69 = .ok (.iconst 0, 1) := by decide +kernel
theorem dX5_sheet_70 : decode cX5_sheet 70 = .ok (.goto 4, 3) := by decide +kernel
theorem dX5_sheet_73 : decode cX5_sheet 73 = .ok (.iload_n 3, 1) := by decide +kernel
theorem dX5_sheet_74 : decode cX5_sheet 74 = .ok (.invokevirtual 240, 3) := by decide +kernel
theorem dX5_sheet_77 : decode cX5_sheet 77 = .ok (.aload_n 0, 1) := by decide +kernel
theorem dX5_sheet_78 : decode cX5_sheet 78 = .ok (.getfield 49, 3) := by decide +kernel
theorem dX5_sheet_81 : decode cX5_sheet 81 = .ok (.iload_n 1, 1) := by decide +kernel
theorem dX5_sheet_82 : decode cX5_sheet 82 = .ok (.aaload, 1) := by decide +kernel
theorem dX5_sheet_83 : decode cX5_sheet 83 = .ok (.getfield 243, 3) := by decide +kernel
theorem dX5_sheet_86 : decode cX5_sheet 86 = .ok (.ireturn, 1) := by decide +kernel
theorem dX5_write_0 : decode cX5_write 0 = .ok (.aload_n 0, 1) := by decide +kernel
theorem dX5_write_1 : decode cX5_write 1 = .ok (.iload_n 1, 1) := by decide +kernel
theorem dX5_write_2 : decode cX5_write 2 = .ok (.invokevirtual 244, 3) := by decide +kernel
theorem dX5_write_5 : decode cX5_write 5 = .ok (.istore 4, 2) := by decide +kernel
theorem dX5_write_7 : decode cX5_write 7 = .ok (.iload 4, 2) := by decide +kernel
theorem dX5_write_9 : decode cX5_write 9 = .ok (.iconst (-1), 1) := by decide +kernel
theorem dX5_write_10 : decode cX5_write 10 = .ok (.if_icmp .eq 10, 3) := by decide +kernel
theorem dX5_write_13 : decode cX5_write 13 = .ok (.aload_n 0, 1) := by decide +kernel
theorem dX5_write_14 : decode cX5_write 14 = .ok (.iload 4, 2) := by decide +kernel
theorem dX5_write_16 : decode cX5_write 16 = .ok (.invokevirtual 73, 3) := by decide +kernel
theorem dX5_write_19 : decode cX5_write 19 = .ok (.ireturn, 1) := by decide +kernel
theorem dX5_write_20 : decode cX5_write 20 = .ok (.iload_n 2, 1) := by decide +kernel
theorem dX5_write_21 : decode cX5_write 21 = .ok (.iconst 0, 1) := by decide +kernel
theorem dX5_write_22 : decode cX5_write 22 = .ok (.aload_n 0, 1) := by decide +kernel
theorem dX5_write_23 : decode cX5_write 23 = .ok (.getfield 49, 3) := by decide +kernel
theorem dX5_write_26 : decode cX5_write 26 = .ok (.iload_n 1, 1) := by decide +kernel
theorem dX5_write_27 : decode cX5_write 27 = .ok (.aaload, 1) := by decide +kernel
theorem dX5_write_28 : decode cX5_write 28 = .ok (.getfield 243, 3) := by decide +kernel
theorem dX5_write_31 : decode cX5_write 31 = .ok (.iconst 1, 1) := by decide +kernel
theorem dX5_write_32 : decode cX5_write 32 = .ok (.isub, 1) := by decide +kernel
theorem dX5_write_33 : decode cX5_write 33 = .ok (.invokestatic 69, 3) := by decide +kernel
theorem dX5_write_36 : decode cX5_write 36 = .ok (.ifCond .ne 9, 3) := by decide +kernel
theorem dX5_write_39 : decode cX5_write 39 = .ok (.aload_n 0, 1) := by decide +kernel
theorem dX5_write_40 : decode cX5_write 40 = .ok (.iconst 0, 1) := by decide +kernel
theorem dX5_write_41 : decode cX5_write 41 = .ok (.invokevirtual 73, 3) := by decide +kernel
theorem dX5_write_44 : decode cX5_write 44 = .ok (.ireturn, 1) := by decide +kernel
theorem dX5_write_45 : decode cX5_write 45 = .ok (.aload_n 0, 1) := by decide +kernel
theorem dX5_write_46 : decode cX5_write 46 = .ok (.getfield 49, 3) := by decide +kernel
theorem dX5_write_49 : decode cX5_write 49 = .ok (.iload_n 1, 1) := by decide +kernel
theorem dX5_write_50 : decode cX5_write 50 = .ok (.aaload, 1) := by decide +kernel
theorem dX5_write_51 : decode cX5_write 51 = .ok (.iload_n 2, 1) := by decide +kernel
theorem dX5_write_52 : decode cX5_write 52 = .ok (.iload_n 3, 1) := by decide +kernel
theorem dX5_write_53 : decode cX5_write 53 = .ok (.invokevirtual 247, 3) := by decide +kernel
theorem dX5_write_56 : decode cX5_write 56 = .ok (.iconst 1, 1) := by decide +kernel
theorem dX5_write_57 : decode cX5_write 57 = .ok (.ireturn, 1) := by decide +kernel
theorem dX5_copy_0 : decode cX5_copy 0 = .ok (.iload_n 1, 1) := by decide +kernel
theorem dX5_copy_1 : decode cX5_copy 1 = .ok (.invokestatic 237, 3) := by decide +kernel
theorem dX5_copy_4 : decode cX5_copy 4 = .ok (.ifCond .eq 10, 3) := by decide +kernel
theorem dX5_copy_7 : decode cX5_copy 7 = .ok (.iload_n 3, 1) := by decide +kernel
theorem dX5_copy_8 : decode cX5_copy 8 = .ok (.invokestatic 237, 3) := by decide +kernel
theorem dX5_copy_11 : decode cX5_copy 11 = .ok (.ifCond .ne 9, 3) := by decide +kernel
theorem dX5_copy_14 : decode cX5_copy 14 = .ok (.aload_n 0, 1) := by decide +kernel
theorem dX5_copy_15 : decode cX5_copy 15 = .ok (.iconst 0, 1) := by decide +kernel
theorem dX5_copy_16 : decode cX5_copy 16 = .ok (.invokevirtual 73, 3) := by decide +kernel
theorem dX5_copy_19 : decode cX5_copy 19 = .ok (.ireturn, 1) := by decide +kernel
theorem dX5_copy_20 : decode cX5_copy 20 = .ok (.aload_n 0, 1) := by decide +kernel
theorem dX5_copy_21 : decode cX5_copy 21 = .ok (.getfield 49, 3) := by decide +kernel
theorem dX5_copy_24 : decode cX5_copy 24 = .ok (.iload_n 1, 1) := by decide +kernel
theorem dX5_copy_25 : decode cX5_copy 25 = .ok (.aaload, 1) := by decide +kernel
theorem dX5_copy_26 : decode cX5_copy 26 = .ok (.invokevirtual 250, 3) := by decide +kernel
theorem dX5_copy_29 : decode cX5_copy 29 = .ok (.ifCond .ne 15, 3) := by decide +kernel
theorem dX5_copy_32 : decode cX5_copy 32 = .ok (.aload_n 0, 1) := by decide +kernel
theorem dX5_copy_33 : decode cX5_copy 33 = .ok (.getfield 49, 3) := by decide +kernel
theorem dX5_copy_36 : decode cX5_copy 36 = .ok (.iload_n 3, 1) := by decide +kernel
theorem dX5_copy_37 : decode cX5_copy 37 = .ok (.aaload, 1) := by decide +kernel
theorem dX5_copy_38 : decode cX5_copy 38 = .ok (.invokevirtual 250, 3) := by decide +kernel
theorem dX5_copy_41 : decode cX5_copy 41 = .ok (.ifCond .eq 9, 3) := by decide +kernel
theorem dX5_copy_44 : decode cX5_copy 44 = .ok (.aload_n 0, 1) := by decide +kernel
theorem dX5_copy_45 : decode cX5_copy 45 = .ok (.iconst 5, 1) := by decide +kernel
theorem dX5_copy_46 : decode cX5_copy 46 = .ok (.invokevirtual 73, 3) := by decide +kernel
theorem dX5_copy_49 : decode cX5_copy 49 = .ok (.ireturn, 1) := by decide +kernel
theorem dX5_copy_50 : decode cX5_copy 50 = .ok (.aload_n 0, 1) := by decide +kernel
theorem dX5_copy_51 : decode cX5_copy 51 = .ok (.getfield 49, 3) := by decide +kernel
theorem dX5_copy_54 : decode cX5_copy 54 = .ok (.iload_n 1, 1) := by decide +kernel
theorem dX5_copy_55 : decode cX5_copy 55 = .ok (.aaload, 1) := by decide +kernel
theorem dX5_copy_56 : decode cX5_copy 56 = .ok (.getfield 253, 3) := by decide +kernel
theorem dX5_copy_59 : decode cX5_copy 59 = .ok (.aload_n 0, 1) := by decide +kernel
theorem dX5_copy_60 : decode cX5_copy 60 = .ok (.getfield 49, 3) := by decide +kernel
theorem dX5_copy_63 : decode cX5_copy 63 = .ok (.iload_n 3, 1) := by decide +kernel
theorem dX5_copy_64 : decode cX5_copy 64 = .ok (.aaload, 1) := by decide +kernel
theorem dX5_copy_65 : decode cX5_copy 65 = .ok (.getfield 253, 3) := by decide +kernel
theorem dX5_copy_68 : decode cX5_copy 68 = .ok (.if_icmp .eq 9, 3) := by decide +kernel
theorem dX5_copy_71 : decode cX5_copy 71 = .ok (.aload_n 0, 1) := by decide +kernel
theorem dX5_copy_72 : decode cX5_copy 72 = .ok (.iconst 2, 1) := by decide +kernel
theorem dX5_copy_73 : decode cX5_copy 73 = .ok (.invokevirtual 73, 3) := by decide +kernel
theorem dX5_copy_76 : decode cX5_copy 76 = .ok (.ireturn, 1) := by decide +kernel
theorem dX5_copy_77 : decode cX5_copy 77 = .ok (.aload_n 0, 1) := by decide +kernel
theorem dX5_copy_78 : decode cX5_copy 78 = .ok (.getfield 49, 3) := by decide +kernel
theorem dX5_copy_81 : decode cX5_copy 81 = .ok (.iload_n 1, 1) := by decide +kernel
theorem dX5_copy_82 : decode cX5_copy 82 = .ok (.aaload, 1) := by decide +kernel
theorem dX5_copy_83 : decode cX5_copy 83 = .ok (.iload_n 2, 1) := by decide +kernel
theorem dX5_copy_84 : decode cX5_copy 84 = .ok (.iload 5, 2) := by decide +kernel
theorem dX5_copy_86 : decode cX5_copy 86 = .ok (.invokevirtual 256, 3) := by decide +kernel
theorem dX5_copy_89 : decode cX5_copy 89 = .ok (.ifCond .eq 19, 3) := by decide +kernel
theorem dX5_copy_92 : decode cX5_copy 92 = .ok (.aload_n 0, 1) := by decide +kernel
theorem dX5_copy_93 : decode cX5_copy 93 = .ok (.getfield 49, 3) := by decide +kernel
theorem dX5_copy_96 : decode cX5_copy 96 = .ok (.iload_n 3, 1) := by decide +kernel
theorem dX5_copy_97 : decode cX5_copy 97 = .ok (.aaload, 1) := by decide +kernel
theorem dX5_copy_98 : decode cX5_copy 98 = .ok (.iload 4, 2) := by decide +kernel
theorem dX5_copy_100 : decode cX5_copy 100 = .ok (.iload 5, 2) := by decide +kernel
theorem dX5_copy_102 : decode cX5_copy 102 = .ok (.invokevirtual 256, 3) := by decide +kernel
theorem dX5_copy_105 : decode cX5_copy 105 = .ok (.ifCond .ne 9, 3) := by decide +kernel
theorem dX5_copy_108 : decode cX5_copy 108 = .ok (.aload_n 0, 1) := by decide +kernel
theorem dX5_copy_109 : decode cX5_copy 109 = .ok (.iconst 0, 1) := by decide +kernel
theorem dX5_copy_110 : decode cX5_copy 110 = .ok (.invokevirtual 73, 3) := by decide +kernel
theorem dX5_copy_113 : decode cX5_copy 113 = .ok (.ireturn, 1) := by decide +kernel
theorem dX5_copy_114 : decode cX5_copy 114 = .ok (.aload_n 0, 1) := by decide +kernel
theorem dX5_copy_115 : decode cX5_copy 115 = .ok (.getfield 49, 3) := by decide +kernel
theorem dX5_copy_118 : decode cX5_copy 118 = .ok (.iload_n 1, 1) := by decide +kernel
theorem dX5_copy_119 : decode cX5_copy 119 = .ok (.aaload, 1) := by decide +kernel
theorem dX5_copy_120 : decode cX5_copy 120 = .ok (.getfield 259, 3) := by decide +kernel
theorem dX5_copy_123 : decode cX5_copy 123 = .ok (.iload_n 2, 1) := by decide +kernel
theorem dX5_copy_124 : decode cX5_copy 124 = .ok (.aload_n 0, 1) := by decide +kernel
theorem dX5_copy_125 : decode cX5_copy 125 = .ok (.getfield 49, 3) := by decide +kernel
theorem dX5_copy_128 : decode cX5_copy 128 = .ok (.iload_n 3, 1) := by decide +kernel
theorem dX5_copy_129 : decode cX5_copy 129 = .ok (.aaload, 1) := by decide +kernel
theorem dX5_copy_130 : decode cX5_copy 130 = .ok (.getfield 259, 3) := by decide +kernel
theorem dX5_copy_133 : decode cX5_copy 133 = .ok (.iload 4, 2) := by decide +kernel
theorem dX5_copy_135 : decode cX5_copy 135 = .ok (.iload 5, 2) := by decide +kernel
theorem dX5_copy_137 : decode cX5_copy 137 = .ok (.invokestatic 262, 3) := by decide +kernel
theorem dX5_copy_140 : decode cX5_copy 140 = .ok (.iload 5, 2) := by decide +kernel
theorem dX5_copy_142 : decode cX5_copy 142 = .ok (.ireturn, 1) := by decide +kernel
theorem dX5_load_0 : decode cX5_load 0 = .ok (.aload_n 0, 1) := by decide +kernel
theorem dX5_load_1 : decode cX5_load 1 = .ok (.iload_n 1, 1) := by decide +kernel
theorem dX5_load_2 : decode cX5_load 2 = .ok (.invokevirtual 244, 3) := by decide +kernel
theorem dX5_load_5 : decode cX5_load 5 = .ok (.istore_n 2, 1) := by decide +kernel
theorem dX5_load_6 : decode cX5_load 6 = .ok (.iload_n 2, 1) := by decide +kernel
theorem dX5_load_7 : decode cX5_load 7 = .ok (.iconst (-1), 1) := by decide +kernel
theorem dX5_load_8 : decode cX5_load 8 = .ok (.if_icmp .eq 9, 3) := by decide +kernel
theorem dX5_load_11 : decode cX5_load 11 = .ok (.aload_n 0, 1) := by decide +kernel
theorem dX5_load_12 : decode cX5_load 12 = .ok (.iload_n 2, 1) := by decide +kernel
theorem dX5_load_13 : decode cX5_load 13 = .ok (.invokevirtual 73, 3) := by decide +kernel
theorem dX5_load_16 : decode cX5_load 16 = .ok (.ireturn, 1) := by decide +kernel
theorem dX5_load_17 : decode cX5_load 17 = .ok (.iconst 0, 1) := by decide +kernel
theorem dX5_load_18 : decode cX5_load 18 = .ok (.istore_n 3, 1) := by decide +kernel
theorem dX5_load_19 : decode cX5_load 19 = .ok (.iconst 0, 1) := by decide +kernel
theorem dX5_load_20 : decode cX5_load 20 = .ok (.istore 4, 2) := by decide +kernel
theorem dX5_load_22 : decode cX5_load 22 = .ok (.iload 4, 2) := by decide +kernel
theorem dX5_load_24 : decode cX5_load 24 = .ok (.aload_n 0, 1) := by decide +kernel
theorem dX5_load_25 : decode cX5_load 25 = .ok (.getfield 49, 3) := by decide +kernel
theorem dX5_load_28 : decode cX5_load 28 = .ok (.iload_n 1, 1) := by decide +kernel
theorem dX5_load_29 : decode cX5_load 29 = .ok (.aaload, 1) := by decide +kernel
theorem dX5_load_30 : decode cX5_load 30 = .ok (.getfield 243, 3) := by decide +kernel
theorem dX5_load_33 : decode cX5_load 33 = .ok (.if_icmp .ge 64, 3) := by decide +kernel
theorem dX5_load_36 : decode cX5_load 36 = .ok (.aload_n 0, 1) := by decide +kernel
theorem dX5_load_37 : decode cX5_load 37 = .ok (.getfield 49, 3) := by decide +kernel
theorem dX5_load_40 : decode cX5_load 40 = .ok (.iload_n 1, 1) := by decide +kernel
theorem dX5_load_41 : decode cX5_load 41 = .ok (.aaload, 1) := by decide +kernel
theorem dX5_load_42 : decode cX5_load 42 = .ok (.getfield 259, 3) := by decide +kernel
theorem dX5_load_45 : decode cX5_load 45 = .ok (.iload 4, 2) := by decide +kernel
theorem dX5_load_47 : decode cX5_load 47 = .ok (.iaload, 1) := by decide +kernel
theorem dX5_load_48 : decode cX5_load 48 = .ok (.istore 5, 2) := by decide +kernel
theorem dX5_load_50 : decode cX5_load 50 = .ok (.iload 5, 2) := by decide +kernel
theorem dX5_load_52 : decode cX5_load 52 = .ok (.invokestatic 66, 3) := by decide +kernel
theorem dX5_load_55 : decode cX5_load 55 = .ok (.ifCond .eq 42, 3) := by decide +kernel
theorem dX5_load_58 : decode cX5_load 58 = .ok (.aload_n 0, 1) := by decide +kernel
theorem dX5_load_59 : decode cX5_load 59 = .ok (.getfield 10, 3) := by decide +kernel
theorem dX5_load_62 : decode cX5_load 62 = .ok (.iload 4, 2) := by decide +kernel
theorem dX5_load_64 : decode cX5_load 64 = .ok (.invokevirtual 85, 3) := by decide +kernel
theorem dX5_load_67 : decode cX5_load 67 = .ok (.ifCond .ne 6, 3) := by decide +kernel
theorem dX5_load_70 : decode cX5_load 70 = .ok (.goto 27, 3) := by decide +kernel
theorem dX5_load_73 : decode cX5_load 73 = .ok (.aload_n 0, 1) := by decide +kernel
theorem dX5_load_74 : decode cX5_load 74 = .ok (.getfield 10, 3) := by decide +kernel
theorem dX5_load_77 : decode cX5_load 77 = .ok (.getfield 88, 3) := by decide +kernel
theorem dX5_load_80 : decode cX5_load 80 = .ok (.iload 4, 2) := by decide +kernel
theorem dX5_load_82 : decode cX5_load 82 = .ok (.aaload, 1) := by decide +kernel
theorem dX5_load_83 : decode cX5_load 83 = .ok (.iload 5, 2) := by decide +kernel
theorem dX5_load_85 : decode cX5_load 85 = .ok (.putfield 199, 3) := by decide +kernel
theorem dX5_load_88 : decode cX5_load 88 = .ok (.iinc 3 1, 3) := by decide +kernel
theorem dX5_load_91 : decode cX5_load 91 = .ok (.iinc 4 1, 3) := by decide +kernel
theorem dX5_load_94 : decode cX5_load 94 = .ok (.goto (-72), 3) := by decide +kernel
theorem dX5_load_97 : decode cX5_load 97 = .ok (.iload_n 3, 1) := by decide +kernel
theorem dX5_load_98 : decode cX5_load 98 = .ok (.ireturn, 1) := by decide +kernel
theorem dX5_judge_0 : decode cX5_judge 0 = .ok (.aload_n 0, 1) := by decide +kernel
theorem dX5_judge_1 : decode cX5_judge 1 = .ok (.iload_n 1, 1) := by decide +kernel
theorem dX5_judge_2 : decode cX5_judge 2 = .ok (.invokevirtual 268, 3) := by decide +kernel
theorem dX5_judge_5 : decode cX5_judge 5 = .ok (.istore_n 2, 1) := by decide +kernel
theorem dX5_judge_6 : decode cX5_judge 6 = .ok (.iload_n 2, 1) := by decide +kernel
theorem dX5_judge_7 : decode cX5_judge 7 = .ok (.iconst (-1), 1) := by decide +kernel
theorem dX5_judge_8 : decode cX5_judge 8 = .ok (.if_icmp .eq 9, 3) := by decide +kernel
theorem dX5_judge_11 : decode cX5_judge 11 = .ok (.aload_n 0, 1) := by decide +kernel
theorem dX5_judge_12 : decode cX5_judge 12 = .ok (.iload_n 2, 1) := by decide +kernel
theorem dX5_judge_13 : decode cX5_judge 13 = .ok (.invokevirtual 73, 3) := by decide +kernel
theorem dX5_judge_16 : decode cX5_judge 16 = .ok (.ireturn, 1) := by decide +kernel
theorem dX5_judge_17 : decode cX5_judge 17 = .ok (.aload_n 0, 1) := by decide +kernel
theorem dX5_judge_18 : decode cX5_judge 18 = .ok (.invokevirtual 126, 3) := by decide +kernel
theorem dX5_judge_21 : decode cX5_judge 21 = .ok (.istore_n 3, 1) := by decide +kernel
theorem dX5_judge_22 : decode cX5_judge 22 = .ok (.iconst 0, 1) := by decide +kernel
theorem dX5_judge_23 : decode cX5_judge 23 = .ok (.istore 4, 2) := by decide +kernel
theorem dX5_judge_25 : decode cX5_judge 25 = .ok (.iconst 0, 1) := by decide +kernel
theorem dX5_judge_26 : decode cX5_judge 26 = .ok (.istore 5, 2) := by decide +kernel
theorem dX5_judge_28 : decode cX5_judge 28 = .ok (.iload 5, 2) := by decide +kernel
theorem dX5_judge_30 : decode cX5_judge 30 = .ok (.aload_n 0, 1) := by decide +kernel
theorem dX5_judge_31 : decode cX5_judge 31 = .ok (.getfield 10, 3) := by decide +kernel
theorem dX5_judge_34 : decode cX5_judge 34 = .ok (.getfield 77, 3) := by decide +kernel
theorem dX5_judge_37 : decode cX5_judge 37 = .ok (.if_icmp .ge 56, 3) := by decide +kernel
theorem dX5_judge_40 : decode cX5_judge 40 = .ok (.iload 5, 2) := by decide +kernel
theorem dX5_judge_42 : decode cX5_judge 42 = .ok (.iload_n 3, 1) := by decide +kernel
theorem dX5_judge_43 : decode cX5_judge 43 = .ok (.invokestatic 179, 3) := by decide +kernel
theorem dX5_judge_46 : decode cX5_judge 46 = .ok (.ifCond .eq 41, 3) := by decide +kernel
theorem dX5_judge_49 : decode cX5_judge 49 = .ok (.aload_n 0, 1) := by decide +kernel
theorem dX5_judge_50 : decode cX5_judge 50 = .ok (.getfield 49, 3) := by decide +kernel
theorem dX5_judge_53 : decode cX5_judge 53 = .ok (.iload_n 1, 1) := by decide +kernel
theorem dX5_judge_54 : decode cX5_judge 54 = .ok (.aaload, 1) := by decide +kernel
theorem dX5_judge_55 : decode cX5_judge 55 = .ok (.aload_n 0, 1) := by decide +kernel
theorem dX5_judge_56 : decode cX5_judge 56 = .ok (.getfield 10, 3) := by decide +kernel
theorem dX5_judge_59 : decode cX5_judge 59 = .ok (.getfield 88, 3) := by decide +kernel
theorem dX5_judge_62 : decode cX5_judge 62 = .ok (.iload 5, 2) := by decide +kernel
theorem dX5_judge_64 : decode cX5_judge 64 = .ok (.aaload, 1) := by decide +kernel
theorem dX5_judge_65 : decode cX5_judge 65 = .ok (.aload_n 0, 1) := by decide +kernel
theorem dX5_judge_66 : decode cX5_judge 66 = .ok (.getfield 10, 3) := by decide +kernel
theorem dX5_judge_69 : decode cX5_judge 69 = .ok (.getfield 92, 3) := by decide +kernel
theorem dX5_judge_72 : decode cX5_judge 72 = .ok (.invokevirtual 271, 3) := by decide +kernel
theorem dX5_judge_75 : decode cX5_judge 75 = .ok (.ifCond .eq 12, 3) := by decide +kernel
theorem dX5_judge_78 : decode cX5_judge 78 = .ok (.iload 4, 2) := by decide +kernel
theorem dX5_judge_80 : decode cX5_judge 80 = .ok (.iconst 1, 1) := by decide +kernel
theorem dX5_judge_81 : decode cX5_judge 81 = .ok (.iload 5, 2) := by decide +kernel
theorem dX5_judge_83 : decode cX5_judge 83 = .ok (.ishl, 1) := by decide +kernel
theorem dX5_judge_84 : decode cX5_judge 84 = .ok (.ior, 1) := by decide +kernel
theorem dX5_judge_85 : decode cX5_judge 85 = .ok (.istore 4, 2) := by decide +kernel
theorem dX5_judge_87 : decode cX5_judge 87 = .ok (.iinc 5 1, 3) := by decide +kernel
theorem dX5_judge_90 : decode cX5_judge 90 = .ok (.goto (-62), 3) := by decide +kernel
theorem dX5_judge_93 : decode cX5_judge 93 = .ok (.iload 4, 2) := by decide +kernel
theorem dX5_judge_95 : decode cX5_judge 95 = .ok (.ireturn, 1) := by decide +kernel
theorem dX5_maps_0 : decode cX5_maps 0 = .ok (.aload_n 0, 1) := by decide +kernel
theorem dX5_maps_1 : decode cX5_maps 1 = .ok (.iload_n 1, 1) := by decide +kernel
theorem dX5_maps_2 : decode cX5_maps 2 = .ok (.invokevirtual 268, 3) := by decide +kernel
theorem dX5_maps_5 : decode cX5_maps 5 = .ok (.istore_n 2, 1) := by decide +kernel
theorem dX5_maps_6 : decode cX5_maps 6 = .ok (.iload_n 2, 1) := by decide +kernel
theorem dX5_maps_7 : decode cX5_maps 7 = .ok (.iconst (-1), 1) := by decide +kernel
theorem dX5_maps_8 : decode cX5_maps 8 = .ok (.if_icmp .eq 9, 3) := by decide +kernel
theorem dX5_maps_11 : decode cX5_maps 11 = .ok (.aload_n 0, 1) := by decide +kernel
theorem dX5_maps_12 : decode cX5_maps 12 = .ok (.iload_n 2, 1) := by decide +kernel
theorem dX5_maps_13 : decode cX5_maps 13 = .ok (.invokevirtual 73, 3) := by decide +kernel
theorem dX5_maps_16 : decode cX5_maps 16 = .ok (.ireturn, 1) := by decide +kernel
theorem dX5_maps_17 : decode cX5_maps 17 = .ok (.aload_n 0, 1) := by decide +kernel
theorem dX5_maps_18 : decode cX5_maps 18 = .ok (.aload_n 0, 1) := by decide +kernel
theorem dX5_maps_19 : decode cX5_maps 19 = .ok (.invokevirtual 126, 3) := by decide +kernel
theorem dX5_maps_22 : decode cX5_maps 22 = .ok (.aload_n 0, 1) := by decide +kernel
theorem dX5_maps_23 : decode cX5_maps 23 = .ok (.getfield 10, 3) := by decide +kernel
theorem dX5_maps_26 : decode cX5_maps 26 = .ok (.getfield 92, 3) := by decide +kernel
theorem dX5_maps_29 : decode cX5_maps 29 = .ok (.invokevirtual 202, 3) := by decide +kernel
theorem dX5_maps_32 : decode cX5_maps 32 = .ok (.iconst 1, 1) := by decide +kernel
theorem dX5_maps_33 : decode cX5_maps 33 = .ok (.istore_n 3, 1) := by decide +kernel
theorem dX5_maps_34 : decode cX5_maps 34 = .ok (.iload_n 3, 1) := by decide +kernel
theorem dX5_maps_35 : decode cX5_maps 35 = .ok (.aload_n 0, 1) := by decide +kernel
theorem dX5_maps_36 : decode cX5_maps 36 = .ok (.getfield 49, 3) := by decide +kernel
theorem dX5_maps_39 : decode cX5_maps 39 = .ok (.iload_n 1, 1) := by decide +kernel
theorem dX5_maps_40 : decode cX5_maps 40 = .ok (.aaload, 1) := by decide +kernel
theorem dX5_maps_41 : decode cX5_maps 41 = .ok (.getfield 243, 3) := by decide +kernel
theorem dX5_maps_44 : decode cX5_maps 44 = .ok (.if_icmp .ge 47, 3) := by decide +kernel
theorem dX5_maps_47 : decode cX5_maps 47 = .ok (.aload_n 0, 1) := by decide +kernel
theorem dX5_maps_48 : decode cX5_maps 48 = .ok (.getfield 49, 3) := by decide +kernel
theorem dX5_maps_51 : decode cX5_maps 51 = .ok (.iload_n 1, 1) := by decide +kernel
theorem dX5_maps_52 : decode cX5_maps 52 = .ok (.aaload, 1) := by decide +kernel
theorem dX5_maps_53 : decode cX5_maps 53 = .ok (.getfield 259, 3) := by decide +kernel
theorem dX5_maps_56 : decode cX5_maps 56 = .ok (.iload_n 3, 1) := by decide +kernel
theorem dX5_maps_57 : decode cX5_maps 57 = .ok (.iaload, 1) := by decide +kernel
theorem dX5_maps_58 : decode cX5_maps 58 = .ok (.aload_n 0, 1) := by decide +kernel
theorem dX5_maps_59 : decode cX5_maps 59 = .ok (.getfield 49, 3) := by decide +kernel
theorem dX5_maps_62 : decode cX5_maps 62 = .ok (.iload_n 1, 1) := by decide +kernel
theorem dX5_maps_63 : decode cX5_maps 63 = .ok (.aaload, 1) := by decide +kernel
theorem dX5_maps_64 : decode cX5_maps 64 = .ok (.getfield 259, 3) := by decide +kernel
theorem dX5_maps_67 : decode cX5_maps 67 = .ok (.iconst 0, 1) := by decide +kernel
theorem dX5_maps_68 : decode cX5_maps 68 = .ok (.iaload, 1) := by decide +kernel
theorem dX5_maps_69 : decode cX5_maps 69 = .ok (.isub, 1) := by decide +kernel
theorem dX5_maps_70 : decode cX5_maps 70 = .ok (.istore 4, 2) := by decide +kernel
theorem dX5_maps_72 : decode cX5_maps 72 = .ok (.aload_n 0, 1) := by decide +kernel
theorem dX5_maps_73 : decode cX5_maps 73 = .ok (.getfield 29, 3) := by decide +kernel
theorem dX5_maps_76 : decode cX5_maps 76 = .ok (.iconst 0, 1) := by decide +kernel
theorem dX5_maps_77 : decode cX5_maps 77 = .ok (.iload_n 3, 1) := by decide +kernel
theorem dX5_maps_78 : decode cX5_maps 78 = .ok (.iload 4, 2) := by decide +kernel
theorem dX5_maps_80 : decode cX5_maps 80 = .ok (.iload 4, 2) := by decide +kernel
theorem dX5_maps_82 : decode cX5_maps 82 = .ok (.invokevirtual 274, 3) := by decide +kernel
theorem dX5_maps_85 : decode cX5_maps 85 = .ok (.iinc 3 1, 3) := by decide +kernel
theorem dX5_maps_88 : decode cX5_maps 88 = .ok (.goto (-54), 3) := by decide +kernel
theorem dX5_maps_91 : decode cX5_maps 91 = .ok (.aload_n 0, 1) := by decide +kernel
theorem dX5_maps_92 : decode cX5_maps 92 = .ok (.getfield 29, 3) := by decide +kernel
theorem dX5_maps_95 : decode cX5_maps 95 = .ok (.getfield 205, 3) := by decide +kernel
theorem dX5_maps_98 : decode cX5_maps 98 = .ok (.ifCond .eq 7, 3) := by decide +kernel
theorem dX5_maps_101 : decode cX5_maps 101 = .ok (.iconst 1, 1) := by decide +kernel
theorem dX5_maps_102 : decode cX5_maps 102 = .ok (.goto 4, 3) := by decide +kernel
theorem dX5_maps_105 : decode cX5_maps 105 = .ok (.iconst 0, 1) := by decide +kernel
theorem dX5_maps_106 : decode cX5_maps 106 = .ok (.ireturn, 1) := by decide +kernel
theorem dX5_image_0 : decode cX5_image 0 = .ok (.aload_n 0, 1) := by decide +kernel
theorem dX5_image_1 : decode cX5_image 1 = .ok (.getfield 19, 3) := by decide +kernel
theorem dX5_image_4 : decode cX5_image 4 = .ok (.aload_n 0, 1) := by decide +kernel
theorem dX5_image_5 : decode cX5_image 5 = .ok (.getfield 10, 3) := by decide +kernel
theorem dX5_image_8 : decode cX5_image 8 = .ok (.invokevirtual 223, 3) := by decide +kernel
theorem dX5_image_11 : decode cX5_image 11 = .ok (.aload_n 0, 1) := by decide +kernel
theorem dX5_image_12 : decode cX5_image 12 = .ok (.iconst 1, 1) := by decide +kernel
theorem dX5_image_13 : decode cX5_image 13 = .ok (.putfield 22, 3) := by decide +kernel
theorem dX5_image_16 : decode cX5_image 16 = .ok (.iconst 1, 1) := by decide +kernel
theorem dX5_image_17 : decode cX5_image 17 = .ok (.ireturn, 1) := by decide +kernel
theorem dX5_undo_0 : decode cX5_undo 0 = .ok (.aload_n 0, 1) := by decide +kernel
theorem dX5_undo_1 : decode cX5_undo 1 = .ok (.getfield 22, 3) := by decide +kernel
theorem dX5_undo_4 : decode cX5_undo 4 = .ok (.ifCond .ne 9, 3) := by decide +kernel
theorem dX5_undo_7 : decode cX5_undo 7 = .ok (.aload_n 0, 1) := by decide +kernel
theorem dX5_undo_8 : decode cX5_undo 8 = .ok (.iconst 3, 1) := by decide +kernel
theorem dX5_undo_9 : decode cX5_undo 9 = .ok (.invokevirtual 73, 3) := by decide +kernel
theorem dX5_undo_12 : decode cX5_undo 12 = .ok (.ireturn, 1) := by decide +kernel
theorem dX5_undo_13 : decode cX5_undo 13 = .ok (.aload_n 0, 1) := by decide +kernel
theorem dX5_undo_14 : decode cX5_undo 14 = .ok (.getfield 10, 3) := by decide +kernel
theorem dX5_undo_17 : decode cX5_undo 17 = .ok (.aload_n 0, 1) := by decide +kernel
theorem dX5_undo_18 : decode cX5_undo 18 = .ok (.getfield 19, 3) := by decide +kernel
theorem dX5_undo_21 : decode cX5_undo 21 = .ok (.invokevirtual 223, 3) := by decide +kernel
theorem dX5_undo_24 : decode cX5_undo 24 = .ok (.aload_n 0, 1) := by decide +kernel
theorem dX5_undo_25 : decode cX5_undo 25 = .ok (.getfield 10, 3) := by decide +kernel
theorem dX5_undo_28 : decode cX5_undo 28 = .ok (.getfield 107, 3) := by decide +kernel
theorem dX5_undo_31 : decode cX5_undo 31 = .ok (.ireturn, 1) := by decide +kernel
theorem dX5_tear_0 : decode cX5_tear 0 = .ok (.aload_n 0, 1) := by decide +kernel
theorem dX5_tear_1 : decode cX5_tear 1 = .ok (.getfield 22, 3) := by decide +kernel
theorem dX5_tear_4 : decode cX5_tear 4 = .ok (.ifCond .eq 7, 3) := by decide +kernel
theorem dX5_tear_7 : decode cX5_tear 7 = .ok (.iconst 1, 1) := by decide +kernel
theorem dX5_tear_8 : decode cX5_tear 8 = .ok (.goto 4, 3) := by decide +kernel
theorem dX5_tear_11 : decode cX5_tear 11 = .ok (.iconst 0, 1) := by decide +kernel
theorem dX5_tear_12 : decode cX5_tear 12 = .ok (.istore_n 1, 1) := by decide +kernel
theorem dX5_tear_13 : decode cX5_tear 13 = .ok (.aload_n 0, 1) := by decide +kernel
theorem dX5_tear_14 : decode cX5_tear 14 = .ok (.iconst 0, 1) := by decide +kernel
theorem dX5_tear_15 : decode cX5_tear 15 = .ok (.putfield 22, 3) := by decide +kernel
theorem dX5_tear_18 : decode cX5_tear 18 = .ok (.iload_n 1, 1) := by decide +kernel
theorem dX5_tear_19 : decode cX5_tear 19 = .ok (.ireturn, 1) := by decide +kernel
theorem dX5_count_0 : decode cX5_count 0 = .ok (.iload_n 1, 1) := by decide +kernel
theorem dX5_count_1 : decode cX5_count 1 = .ok (.tableswitch 114 0 7 #[47, 55, 63, 71, 82, 90, 98, 106], 47) := by decide +kernel
theorem dX5_count_48 : decode cX5_count 48 = .ok (.aload_n 0, 1) := by decide +kernel
theorem dX5_count_49 : decode cX5_count 49 = .ok (.getfield 10, 3) := by decide +kernel
theorem dX5_count_52 : decode cX5_count 52 = .ok (.getfield 107, 3) := by decide +kernel
theorem dX5_count_55 : decode cX5_count 55 = .ok (.ireturn, 1) := by decide +kernel
theorem dX5_count_56 : decode cX5_count 56 = .ok (.aload_n 0, 1) := by decide +kernel
theorem dX5_count_57 : decode cX5_count 57 = .ok (.getfield 10, 3) := by decide +kernel
theorem dX5_count_60 : decode cX5_count 60 = .ok (.getfield 77, 3) := by decide +kernel
theorem dX5_count_63 : decode cX5_count 63 = .ok (.ireturn, 1) := by decide +kernel
theorem dX5_count_64 : decode cX5_count 64 = .ok (.aload_n 0, 1) := by decide +kernel
theorem dX5_count_65 : decode cX5_count 65 = .ok (.invokevirtual 126, 3) := by decide +kernel
theorem dX5_count_68 : decode cX5_count 68 = .ok (.invokestatic 171, 3) := by decide +kernel
theorem dX5_count_71 : decode cX5_count 71 = .ok (.ireturn, 1) := by decide +kernel
theorem dX5_count_72 : decode cX5_count 72 = .ok (.aload_n 0, 1) := by decide +kernel
theorem dX5_count_73 : decode cX5_count 73 = .ok (.getfield 10, 3) := by decide +kernel
theorem dX5_count_76 : decode cX5_count 76 = .ok (.invokevirtual 133, 3) := by decide +kernel
theorem dX5_count_79 : decode cX5_count 79 = .ok (.invokestatic 171, 3) := by decide +kernel
theorem dX5_count_82 : decode cX5_count 82 = .ok (.ireturn, 1) := by decide +kernel
theorem dX5_count_83 : decode cX5_count 83 = .ok (.aload_n 0, 1) := by decide +kernel
theorem dX5_count_84 : decode cX5_count 84 = .ok (.getfield 10, 3) := by decide +kernel
theorem dX5_count_87 : decode cX5_count 87 = .ok (.invokevirtual 278, 3) := by decide +kernel
theorem dX5_count_90 : decode cX5_count 90 = .ok (.ireturn, 1) := by decide +kernel
theorem dX5_count_91 : decode cX5_count 91 = .ok (.aload_n 0, 1) := by decide +kernel
theorem dX5_count_92 : decode cX5_count 92 = .ok (.getfield 43, 3) := by decide +kernel
theorem dX5_count_95 : decode cX5_count 95 = .ok (.getfield 217, 3) := by decide +kernel
theorem dX5_count_98 : decode cX5_count 98 = .ok (.ireturn, 1) := by decide +kernel
theorem dX5_count_99 : decode cX5_count 99 = .ok (.aload_n 0, 1) := by decide +kernel
theorem dX5_count_100 : decode cX5_count 100 = .ok (.getfield 10, 3) := by decide +kernel
theorem dX5_count_103 : decode cX5_count 103 = .ok (.getfield 214, 3) := by decide +kernel
theorem dX5_count_106 : decode cX5_count 106 = .ok (.ireturn, 1) := by decide +kernel
theorem dX5_count_107 : decode cX5_count 107 = .ok (.aload_n 0, 1) := by decide +kernel
theorem dX5_count_108 : decode cX5_count 108 = .ok (.getfield 10, 3) := by decide +kernel
theorem dX5_count_111 : decode cX5_count 111 = .ok (.invokevirtual 281, 3) := by decide +kernel
theorem dX5_count_114 : decode cX5_count 114 = .ok (.ireturn, 1) := by decide +kernel
theorem dX5_count_115 : decode cX5_count 115 = .ok (.aload_n 0, 1) := by decide +kernel
theorem dX5_count_116 : decode cX5_count 116 = .ok (.iconst 0, 1) := by decide +kernel
theorem dX5_count_117 : decode cX5_count 117 = .ok (.invokevirtual 73, 3) := by decide +kernel
theorem dX5_count_120 : decode cX5_count 120 = .ok (.ireturn, 1) := by decide +kernel
theorem dX5_status_0 : decode cX5_status 0 = .ok (.iload_n 1, 1) := by decide +kernel
theorem dX5_status_1 : decode cX5_status 1 = .ok (.iconst (-1), 1) := by decide +kernel
theorem dX5_status_2 : decode cX5_status 2 = .ok (.bipush 6, 2) := by decide +kernel
theorem dX5_status_4 : decode cX5_status 4 = .ok (.invokestatic 69, 3) := by decide +kernel
theorem dX5_status_7 : decode cX5_status 7 = .ok (.ifCond .ne 9, 3) := by decide +kernel
theorem dX5_status_10 : decode cX5_status 10 = .ok (.aload_n 0, 1) := by decide +kernel
theorem dX5_status_11 : decode cX5_status 11 = .ok (.iconst 0, 1) := by decide +kernel
theorem dX5_status_12 : decode cX5_status 12 = .ok (.invokevirtual 73, 3) := by decide +kernel
theorem dX5_status_15 : decode cX5_status 15 = .ok (.ireturn, 1) := by decide +kernel
theorem dX5_status_16 : decode cX5_status 16 = .ok (.iload_n 1, 1) := by decide +kernel
theorem dX5_status_17 : decode cX5_status 17 = .ok (.ifCond .lt 10, 3) := by decide +kernel
theorem dX5_status_20 : decode cX5_status 20 = .ok (.aload_n 0, 1) := by decide +kernel
theorem dX5_status_21 : decode cX5_status 21 = .ok (.getfield 53, 3) := by decide +kernel
theorem dX5_status_24 : decode cX5_status 24 = .ok (.iload_n 1, 1) := by decide +kernel
theorem dX5_status_25 : decode cX5_status 25 = .ok (.iaload, 1) := by decide +kernel
theorem dX5_status_26 : decode cX5_status 26 = .ok (.ireturn, 1) := by decide +kernel
theorem dX5_status_27 : decode cX5_status 27 = .ok (.iconst 0, 1) := by decide +kernel
theorem dX5_status_28 : decode cX5_status 28 = .ok (.istore_n 2, 1) := by decide +kernel
theorem dX5_status_29 : decode cX5_status 29 = .ok (.iconst 0, 1) := by decide +kernel
theorem dX5_status_30 : decode cX5_status 30 = .ok (.istore_n 3, 1) := by decide +kernel
theorem dX5_status_31 : decode cX5_status 31 = .ok (.iload_n 3, 1) := by decide +kernel
theorem dX5_status_32 : decode cX5_status 32 = .ok (.bipush 7, 2) := by decide +kernel
theorem dX5_status_34 : decode cX5_status 34 = .ok (.if_icmp .ge 18, 3) := by decide +kernel
theorem dX5_status_37 : decode cX5_status 37 = .ok (.iload_n 2, 1) := by decide +kernel
theorem dX5_status_38 : decode cX5_status 38 = .ok (.aload_n 0, 1) := by decide +kernel
theorem dX5_status_39 : decode cX5_status 39 = .ok (.getfield 53, 3) := by decide +kernel
theorem dX5_status_42 : decode cX5_status 42 = .ok (.iload_n 3, 1) := by decide +kernel
theorem dX5_status_43 : decode cX5_status 43 = .ok (.iaload, 1) := by decide +kernel
theorem dX5_status_44 : decode cX5_status 44 = .ok (.iadd, 1) := by decide +kernel
theorem dX5_status_45 : decode cX5_status 45 = .ok (.istore_n 2, 1) := by decide +kernel
theorem dX5_status_46 : decode cX5_status 46 = .ok (.iinc 3 1, 3) := by decide +kernel
theorem dX5_status_49 : decode cX5_status 49 = .ok (.goto (-18), 3) := by decide +kernel
theorem dX5_status_52 : decode cX5_status 52 = .ok (.iload_n 2, 1) := by decide +kernel
theorem dX5_status_53 : decode cX5_status 53 = .ok (.ireturn, 1) := by decide +kernel
theorem dX5_finding_0 : decode cX5_finding 0 = .ok (.aload_n 0, 1) := by decide +kernel
theorem dX5_finding_1 : decode cX5_finding 1 = .ok (.getfield 53, 3) := by decide +kernel
theorem dX5_finding_4 : decode cX5_finding 4 = .ok (.iload_n 1, 1) := by decide +kernel
theorem dX5_finding_5 : decode cX5_finding 5 = .ok (.dup2, 1) := by decide +kernel
theorem dX5_finding_6 : decode cX5_finding 6 = .ok (.iaload, 1) := by decide +kernel
theorem dX5_finding_7 : decode cX5_finding 7 = .ok (.iconst 1, 1) := by decide +kernel
theorem dX5_finding_8 : decode cX5_finding 8 = .ok (.iadd, 1) := by decide +kernel
theorem dX5_finding_9 : decode cX5_finding 9 = .ok (.iastore, 1) := by decide +kernel
theorem dX5_finding_10 : decode cX5_finding 10 = .ok (.ldc_w 284, 3) := by decide +kernel
theorem dX5_finding_13 : decode cX5_finding 13 = .ok (.iload_n 1, 1) := by decide +kernel
theorem dX5_finding_14 : decode cX5_finding 14 = .ok (.isub, 1) := by decide +kernel
theorem dX5_finding_15 : decode cX5_finding 15 = .ok (.ireturn, 1) := by decide +kernel
theorem dX5_counting_0 : decode cX5_counting 0 = .ok (.aload_n 0, 1) := by decide +kernel
theorem dX5_counting_1 : decode cX5_counting 1 = .ok (.getfield 10, 3) := by decide +kernel
theorem dX5_counting_4 : decode cX5_counting 4 = .ok (.aload_n 0, 1) := by decide +kernel
theorem dX5_counting_5 : decode cX5_counting 5 = .ok (.getfield 10, 3) := by decide +kernel
theorem dX5_counting_8 : decode cX5_counting 8 = .ok (.getfield 107, 3) := by decide +kernel
theorem dX5_counting_11 : decode cX5_counting 11 = .ok (.invokevirtual 162, 3) := by decide +kernel
theorem dX5_counting_14 : decode cX5_counting 14 = .ok (.ireturn, 1) := by decide +kernel
theorem dX5_canHold_0 : decode cX5_canHold 0 = .ok (.aload_n 0, 1) := by decide +kernel
theorem dX5_canHold_1 : decode cX5_canHold 1 = .ok (.iload_n 1, 1) := by decide +kernel
theorem dX5_canHold_2 : decode cX5_canHold 2 = .ok (.aload_n 0, 1) := by decide +kernel
theorem dX5_canHold_3 : decode cX5_canHold 3 = .ok (.getfield 10, 3) := by decide +kernel
theorem dX5_canHold_6 : decode cX5_canHold 6 = .ok (.getfield 92, 3) := by decide +kernel
theorem dX5_canHold_9 : decode cX5_canHold 9 = .ok (.invokevirtual 202, 3) := by decide +kernel
theorem dX5_canHold_12 : decode cX5_canHold 12 = .ok (.aload_n 0, 1) := by decide +kernel
theorem dX5_canHold_13 : decode cX5_canHold 13 = .ok (.getfield 29, 3) := by decide +kernel
theorem dX5_canHold_16 : decode cX5_canHold 16 = .ok (.getfield 205, 3) := by decide +kernel
theorem dX5_canHold_19 : decode cX5_canHold 19 = .ok (.ireturn, 1) := by decide +kernel
theorem dX5_drawChart_0 : decode cX5_drawChart 0 = .ok (.aload_n 0, 1) := by decide +kernel
theorem dX5_drawChart_1 : decode cX5_drawChart 1 = .ok (.getfield 29, 3) := by decide +kernel
theorem dX5_drawChart_4 : decode cX5_drawChart 4 = .ok (.invokevirtual 285, 3) := by decide +kernel
theorem dX5_drawChart_7 : decode cX5_drawChart 7 = .ok (.iconst 0, 1) := by decide +kernel
theorem dX5_drawChart_8 : decode cX5_drawChart 8 = .ok (.istore_n 3, 1) := by decide +kernel
theorem dX5_drawChart_9 : decode cX5_drawChart 9 = .ok (.iload_n 3, 1) := by decide +kernel
theorem dX5_drawChart_10 : decode cX5_drawChart 10 = .ok (.aload_n 0, 1) := by decide +kernel
theorem dX5_drawChart_11 : decode cX5_drawChart 11 = .ok (.getfield 10, 3) := by decide +kernel
theorem dX5_drawChart_14 : decode cX5_drawChart 14 = .ok (.getfield 77, 3) := by decide +kernel
theorem dX5_drawChart_17 : decode cX5_drawChart 17 = .ok (.if_icmp .ge 67, 3) := by decide +kernel
theorem dX5_drawChart_20 : decode cX5_drawChart 20 = .ok (.aload_n 0, 1) := by decide +kernel
theorem dX5_drawChart_21 : decode cX5_drawChart 21 = .ok (.getfield 29, 3) := by decide +kernel
theorem dX5_drawChart_24 : decode cX5_drawChart 24 = .ok (.getfield 205, 3) := by decide +kernel
theorem dX5_drawChart_27 : decode cX5_drawChart 27 = .ok (.ifCond .eq 57, 3) := by decide +kernel
theorem dX5_drawChart_30 : decode cX5_drawChart 30 = .ok (.iload_n 3, 1) := by decide +kernel
theorem dX5_drawChart_31 : decode cX5_drawChart 31 = .ok (.iload_n 1, 1) := by decide +kernel
theorem dX5_drawChart_32 : decode cX5_drawChart 32 = .ok (.invokestatic 179, 3) := by decide +kernel
theorem dX5_drawChart_35 : decode cX5_drawChart 35 = .ok (.ifCond .eq 43, 3) := by decide +kernel
theorem dX5_drawChart_38 : decode cX5_drawChart 38 = .ok (.aload_n 0, 1) := by decide +kernel
theorem dX5_drawChart_39 : decode cX5_drawChart 39 = .ok (.getfield 10, 3) := by decide +kernel
theorem dX5_drawChart_42 : decode cX5_drawChart 42 = .ok (.getfield 88, 3) := by decide +kernel
theorem dX5_drawChart_45 : decode cX5_drawChart 45 = .ok (.iload_n 3, 1) := by decide +kernel
theorem dX5_drawChart_46 : decode cX5_drawChart 46 = .ok (.aaload, 1) := by decide +kernel
theorem dX5_drawChart_47 : decode cX5_drawChart 47 = .ok (.astore 4, 2) := by decide +kernel
theorem dX5_drawChart_49 : decode cX5_drawChart 49 = .ok (.aload_n 0, 1) := by decide +kernel
theorem dX5_drawChart_50 : decode cX5_drawChart 50 = .ok (.getfield 29, 3) := by decide +kernel
theorem dX5_drawChart_53 : decode cX5_drawChart 53 = .ok (.aload 4, 2) := by decide +kernel
theorem dX5_drawChart_55 : decode cX5_drawChart 55 = .ok (.getfield 288, 3) := by decide +kernel
theorem dX5_drawChart_58 : decode cX5_drawChart 58 = .ok (.aload 4, 2) := by decide +kernel
theorem dX5_drawChart_60 : decode cX5_drawChart 60 = .ok (.getfield 291, 3) := by decide +kernel
theorem dX5_drawChart_63 : decode cX5_drawChart 63 = .ok (.aload 4, 2) := by decide +kernel
theorem dX5_drawChart_65 : decode cX5_drawChart 65 = .ok (.iload_n 2, 1) := by decide +kernel
theorem dX5_drawChart_66 : decode cX5_drawChart 66 = .ok (.invokevirtual 95, 3) := by decide +kernel
theorem dX5_drawChart_69 : decode cX5_drawChart 69 = .ok (.aload 4, 2) := by decide +kernel
theorem dX5_drawChart_71 : decode cX5_drawChart 71 = .ok (.iload_n 2, 1) := by decide +kernel
theorem dX5_drawChart_72 : decode cX5_drawChart 72 = .ok (.invokevirtual 98, 3) := by decide +kernel
theorem dX5_drawChart_75 : decode cX5_drawChart 75 = .ok (.invokevirtual 274, 3) := by decide +kernel
theorem dX5_drawChart_78 : decode cX5_drawChart 78 = .ok (.iinc 3 1, 3) := by decide +kernel
theorem dX5_drawChart_81 : decode cX5_drawChart 81 = .ok (.goto (-72), 3) := by decide +kernel
theorem dX5_drawChart_84 : decode cX5_drawChart 84 = .ok (.return_, 1) := by decide +kernel
theorem dX5_startGuess_0 : decode cX5_startGuess 0 = .ok (.aload_n 0, 1) := by decide +kernel
theorem dX5_startGuess_1 : decode cX5_startGuess 1 = .ok (.getfield 36, 3) := by decide +kernel
theorem dX5_startGuess_4 : decode cX5_startGuess 4 = .ok (.aload_n 0, 1) := by decide +kernel
theorem dX5_startGuess_5 : decode cX5_startGuess 5 = .ok (.getfield 10, 3) := by decide +kernel
theorem dX5_startGuess_8 : decode cX5_startGuess 8 = .ok (.getfield 88, 3) := by decide +kernel
theorem dX5_startGuess_11 : decode cX5_startGuess 11 = .ok (.iload_n 1, 1) := by decide +kernel
theorem dX5_startGuess_12 : decode cX5_startGuess 12 = .ok (.aaload, 1) := by decide +kernel
theorem dX5_startGuess_13 : decode cX5_startGuess 13 = .ok (.invokevirtual 294, 3) := by decide +kernel
theorem dX5_startGuess_16 : decode cX5_startGuess 16 = .ok (.aload_n 0, 1) := by decide +kernel
theorem dX5_startGuess_17 : decode cX5_startGuess 17 = .ok (.iload_n 1, 1) := by decide +kernel
theorem dX5_startGuess_18 : decode cX5_startGuess 18 = .ok (.aload_n 0, 1) := by decide +kernel
theorem dX5_startGuess_19 : decode cX5_startGuess 19 = .ok (.invokevirtual 126, 3) := by decide +kernel
theorem dX5_startGuess_22 : decode cX5_startGuess 22 = .ok (.invokestatic 182, 3) := by decide +kernel
theorem dX5_startGuess_25 : decode cX5_startGuess 25 = .ok (.aload_n 0, 1) := by decide +kernel
theorem dX5_startGuess_26 : decode cX5_startGuess 26 = .ok (.getfield 10, 3) := by decide +kernel
theorem dX5_startGuess_29 : decode cX5_startGuess 29 = .ok (.getfield 92, 3) := by decide +kernel
theorem dX5_startGuess_32 : decode cX5_startGuess 32 = .ok (.invokevirtual 202, 3) := by decide +kernel
theorem dX5_startGuess_35 : decode cX5_startGuess 35 = .ok (.return_, 1) := by decide +kernel
theorem dX5_guessFits_0 : decode cX5_guessFits 0 = .ok (.aload_n 0, 1) := by decide +kernel
theorem dX5_guessFits_1 : decode cX5_guessFits 1 = .ok (.getfield 29, 3) := by decide +kernel
theorem dX5_guessFits_4 : decode cX5_guessFits 4 = .ok (.getfield 205, 3) := by decide +kernel
theorem dX5_guessFits_7 : decode cX5_guessFits 7 = .ok (.ifCond .eq 24, 3) := by decide +kernel
theorem dX5_guessFits_10 : decode cX5_guessFits 10 = .ok (.aload_n 0, 1) := by decide +kernel
theorem dX5_guessFits_11 : decode cX5_guessFits 11 = .ok (.getfield 10, 3) := by decide +kernel
theorem dX5_guessFits_14 : decode cX5_guessFits 14 = .ok (.aload_n 0, 1) := by decide +kernel
theorem dX5_guessFits_15 : decode cX5_guessFits 15 = .ok (.getfield 36, 3) := by decide +kernel
theorem dX5_guessFits_18 : decode cX5_guessFits 18 = .ok (.aload_n 0, 1) := by decide +kernel
theorem dX5_guessFits_19 : decode cX5_guessFits 19 = .ok (.getfield 10, 3) := by decide +kernel
theorem dX5_guessFits_22 : decode cX5_guessFits 22 = .ok (.getfield 107, 3) := by decide +kernel
theorem dX5_guessFits_25 : decode cX5_guessFits 25 = .ok (.invokevirtual 110, 3) := by decide +kernel
theorem dX5_guessFits_28 : decode cX5_guessFits 28 = .ok (.ifCond .ne 11, 3) := by decide +kernel
theorem dX5_guessFits_31 : decode cX5_guessFits 31 = .ok (.aload_n 0, 1) := by decide +kernel
theorem dX5_guessFits_32 : decode cX5_guessFits 32 = .ok (.getfield 29, 3) := by decide +kernel
theorem dX5_guessFits_35 : decode cX5_guessFits 35 = .ok (.getfield 205, 3) := by decide +kernel
theorem dX5_guessFits_38 : decode cX5_guessFits 38 = .ok (.ireturn, 1) := by decide +kernel
theorem dX5_guessFits_39 : decode cX5_guessFits 39 = .ok (.aload_n 0, 1) := by decide +kernel
theorem dX5_guessFits_40 : decode cX5_guessFits 40 = .ok (.getfield 36, 3) := by decide +kernel
theorem dX5_guessFits_43 : decode cX5_guessFits 43 = .ok (.aload_n 0, 1) := by decide +kernel
theorem dX5_guessFits_44 : decode cX5_guessFits 44 = .ok (.getfield 10, 3) := by decide +kernel
theorem dX5_guessFits_47 : decode cX5_guessFits 47 = .ok (.getfield 92, 3) := by decide +kernel
theorem dX5_guessFits_50 : decode cX5_guessFits 50 = .ok (.invokevirtual 95, 3) := by decide +kernel
theorem dX5_guessFits_53 : decode cX5_guessFits 53 = .ok (.istore_n 1, 1) := by decide +kernel
theorem dX5_guessFits_54 : decode cX5_guessFits 54 = .ok (.aload_n 0, 1) := by decide +kernel
theorem dX5_guessFits_55 : decode cX5_guessFits 55 = .ok (.getfield 29, 3) := by decide +kernel
theorem dX5_guessFits_58 : decode cX5_guessFits 58 = .ok (.aload_n 0, 1) := by decide +kernel
theorem dX5_guessFits_59 : decode cX5_guessFits 59 = .ok (.getfield 36, 3) := by decide +kernel
theorem dX5_guessFits_62 : decode cX5_guessFits 62 = .ok (.getfield 288, 3) := by decide +kernel
theorem dX5_guessFits_65 : decode cX5_guessFits 65 = .ok (.aload_n 0, 1) := by decide +kernel
theorem dX5_guessFits_66 : decode cX5_guessFits 66 = .ok (.getfield 36, 3) := by decide +kernel
theorem dX5_guessFits_69 : decode cX5_guessFits 69 = .ok (.getfield 291, 3) := by decide +kernel
theorem dX5_guessFits_72 : decode cX5_guessFits 72 = .ok (.iload_n 1, 1) := by decide +kernel
theorem dX5_guessFits_73 : decode cX5_guessFits 73 = .ok (.aload_n 0, 1) := by decide +kernel
theorem dX5_guessFits_74 : decode cX5_guessFits 74 = .ok (.getfield 36, 3) := by decide +kernel
theorem dX5_guessFits_77 : decode cX5_guessFits 77 = .ok (.aload_n 0, 1) := by decide +kernel
theorem dX5_guessFits_78 : decode cX5_guessFits 78 = .ok (.getfield 10, 3) := by decide +kernel
theorem dX5_guessFits_81 : decode cX5_guessFits 81 = .ok (.getfield 92, 3) := by decide +kernel
theorem dX5_guessFits_84 : decode cX5_guessFits 84 = .ok (.invokevirtual 98, 3) := by decide +kernel
theorem dX5_guessFits_87 : decode cX5_guessFits 87 = .ok (.invokevirtual 158, 3) := by decide +kernel
theorem dX5_guessFits_90 : decode cX5_guessFits 90 = .ok (.ireturn, 1) := by decide +kernel
theorem dX5_fewestOut_0 : decode cX5_fewestOut 0 = .ok (.iconst 0, 1) := by decide +kernel
theorem dX5_fewestOut_1 : decode cX5_fewestOut 1 = .ok (.istore_n 3, 1) := by decide +kernel
theorem dX5_fewestOut_2 : decode cX5_fewestOut 2 = .ok (.iload_n 3, 1) := by decide +kernel
theorem dX5_fewestOut_3 : decode cX5_fewestOut 3 = .ok (.bipush 8, 2) := by decide +kernel
theorem dX5_fewestOut_5 : decode cX5_fewestOut 5 = .ok (.if_icmp .gt 52, 3) := by decide +kernel
theorem dX5_fewestOut_8 : decode cX5_fewestOut 8 = .ok (.iconst 0, 1) := by decide +kernel
theorem dX5_fewestOut_9 : decode cX5_fewestOut 9 = .ok (.istore 4, 2) := by decide +kernel
theorem dX5_fewestOut_11 : decode cX5_fewestOut 11 = .ok (.iload 4, 2) := by decide +kernel
theorem dX5_fewestOut_13 : decode cX5_fewestOut 13 = .ok (.iload_n 2, 1) := by decide +kernel
theorem dX5_fewestOut_14 : decode cX5_fewestOut 14 = .ok (.if_icmp .gt 37, 3) := by decide +kernel
theorem dX5_fewestOut_17 : decode cX5_fewestOut 17 = .ok (.iload 4, 2) := by decide +kernel
theorem dX5_fewestOut_19 : decode cX5_fewestOut 19 = .ok (.iload_n 2, 1) := by decide +kernel
theorem dX5_fewestOut_20 : decode cX5_fewestOut 20 = .ok (.iload_n 3, 1) := by decide +kernel
theorem dX5_fewestOut_21 : decode cX5_fewestOut 21 = .ok (.invokestatic 176, 3) := by decide +kernel
theorem dX5_fewestOut_24 : decode cX5_fewestOut 24 = .ok (.ifCond .eq 21, 3) := by decide +kernel
theorem dX5_fewestOut_27 : decode cX5_fewestOut 27 = .ok (.aload_n 0, 1) := by decide +kernel
theorem dX5_fewestOut_28 : decode cX5_fewestOut 28 = .ok (.iload_n 1, 1) := by decide +kernel
theorem dX5_fewestOut_29 : decode cX5_fewestOut 29 = .ok (.iload_n 2, 1) := by decide +kernel
theorem dX5_fewestOut_30 : decode cX5_fewestOut 30 = .ok (.iload 4, 2) := by decide +kernel
theorem dX5_fewestOut_32 : decode cX5_fewestOut 32 = .ok (.iconst (-1), 1) := by decide +kernel
theorem dX5_fewestOut_33 : decode cX5_fewestOut 33 = .ok (.ixor, 1) := by decide +kernel
theorem dX5_fewestOut_34 : decode cX5_fewestOut 34 = .ok (.iand, 1) := by decide +kernel
theorem dX5_fewestOut_35 : decode cX5_fewestOut 35 = .ok (.ior, 1) := by decide +kernel
theorem dX5_fewestOut_36 : decode cX5_fewestOut 36 = .ok (.invokevirtual 136, 3) := by decide +kernel
theorem dX5_fewestOut_39 : decode cX5_fewestOut 39 = .ok (.ifCond .eq 6, 3) := by decide +kernel
theorem dX5_fewestOut_42 : decode cX5_fewestOut 42 = .ok (.iload 4, 2) := by decide +kernel
theorem dX5_fewestOut_44 : decode cX5_fewestOut 44 = .ok (.ireturn, 1) := by decide +kernel
theorem dX5_fewestOut_45 : decode cX5_fewestOut 45 = .ok (.iinc 4 1, 3) := by decide +kernel
theorem dX5_fewestOut_48 : decode cX5_fewestOut 48 = .ok (.goto (-37), 3) := by decide +kernel
theorem dX5_fewestOut_51 : decode cX5_fewestOut 51 = .ok (.iinc 3 1, 3) := by decide +kernel
theorem dX5_fewestOut_54 : decode cX5_fewestOut 54 = .ok (.goto (-52), 3) := by decide +kernel
theorem dX5_fewestOut_57 : decode cX5_fewestOut 57 = .ok (.iload_n 2, 1) := by decide +kernel
theorem dX5_fewestOut_58 : decode cX5_fewestOut 58 = .ok (.ireturn, 1) := by decide +kernel
theorem dX5_isPick_0 : decode cX5_isPick 0 = .ok (.iload_n 0, 1) := by decide +kernel
theorem dX5_isPick_1 : decode cX5_isPick 1 = .ok (.iload_n 1, 1) := by decide +kernel
theorem dX5_isPick_2 : decode cX5_isPick 2 = .ok (.iconst (-1), 1) := by decide +kernel
theorem dX5_isPick_3 : decode cX5_isPick 3 = .ok (.ixor, 1) := by decide +kernel
theorem dX5_isPick_4 : decode cX5_isPick 4 = .ok (.iand, 1) := by decide +kernel
theorem dX5_isPick_5 : decode cX5_isPick 5 = .ok (.ifCond .ne 15, 3) := by decide +kernel
theorem dX5_isPick_8 : decode cX5_isPick 8 = .ok (.iload_n 0, 1) := by decide +kernel
theorem dX5_isPick_9 : decode cX5_isPick 9 = .ok (.invokestatic 171, 3) := by decide +kernel
theorem dX5_isPick_12 : decode cX5_isPick 12 = .ok (.iload_n 2, 1) := by decide +kernel
theorem dX5_isPick_13 : decode cX5_isPick 13 = .ok (.if_icmp .ne 7, 3) := by decide +kernel
theorem dX5_isPick_16 : decode cX5_isPick 16 = .ok (.iconst 1, 1) := by decide +kernel
theorem dX5_isPick_17 : decode cX5_isPick 17 = .ok (.goto 4, 3) := by decide +kernel
theorem dX5_isPick_20 : decode cX5_isPick 20 = .ok (.iconst 0, 1) := by decide +kernel
theorem dX5_isPick_21 : decode cX5_isPick 21 = .ok (.ireturn, 1) := by decide +kernel
theorem dX5_isIn_0 : decode cX5_isIn 0 = .ok (.iload_n 1, 1) := by decide +kernel
theorem dX5_isIn_1 : decode cX5_isIn 1 = .ok (.iload_n 0, 1) := by decide +kernel
theorem dX5_isIn_2 : decode cX5_isIn 2 = .ok (.ishr, 1) := by decide +kernel
theorem dX5_isIn_3 : decode cX5_isIn 3 = .ok (.iconst 1, 1) := by decide +kernel
theorem dX5_isIn_4 : decode cX5_isIn 4 = .ok (.iand, 1) := by decide +kernel
theorem dX5_isIn_5 : decode cX5_isIn 5 = .ok (.iconst 1, 1) := by decide +kernel
theorem dX5_isIn_6 : decode cX5_isIn 6 = .ok (.if_icmp .ne 7, 3) := by decide +kernel
theorem dX5_isIn_9 : decode cX5_isIn 9 = .ok (.iconst 1, 1) := by decide +kernel
theorem dX5_isIn_10 : decode cX5_isIn 10 = .ok (.goto 4, 3) := by decide +kernel
theorem dX5_isIn_13 : decode cX5_isIn 13 = .ok (.iconst 0, 1) := by decide +kernel
theorem dX5_isIn_14 : decode cX5_isIn 14 = .ok (.ireturn, 1) := by decide +kernel
theorem dX5_without_0 : decode cX5_without 0 = .ok (.iload_n 1, 1) := by decide +kernel
theorem dX5_without_1 : decode cX5_without 1 = .ok (.iconst 1, 1) := by decide +kernel
theorem dX5_without_2 : decode cX5_without 2 = .ok (.iload_n 0, 1) := by decide +kernel
theorem dX5_without_3 : decode cX5_without 3 = .ok (.ishl, 1) := by decide +kernel
theorem dX5_without_4 : decode cX5_without 4 = .ok (.iconst (-1), 1) := by decide +kernel
theorem dX5_without_5 : decode cX5_without 5 = .ok (.ixor, 1) := by decide +kernel
theorem dX5_without_6 : decode cX5_without 6 = .ok (.iand, 1) := by decide +kernel
theorem dX5_without_7 : decode cX5_without 7 = .ok (.ireturn, 1) := by decide +kernel
theorem dX5_within_0 : decode cX5_within 0 = .ok (.iload_n 0, 1) := by decide +kernel
theorem dX5_within_1 : decode cX5_within 1 = .ok (.iload_n 1, 1) := by decide +kernel
theorem dX5_within_2 : decode cX5_within 2 = .ok (.if_icmp .lt 12, 3) := by decide +kernel
theorem dX5_within_5 : decode cX5_within 5 = .ok (.iload_n 0, 1) := by decide +kernel
theorem dX5_within_6 : decode cX5_within 6 = .ok (.iload_n 2, 1) := by decide +kernel
theorem dX5_within_7 : decode cX5_within 7 = .ok (.if_icmp .gt 7, 3) := by decide +kernel
theorem dX5_within_10 : decode cX5_within 10 = .ok (.iconst 1, 1) := by decide +kernel
theorem dX5_within_11 : decode cX5_within 11 = .ok (.goto 4, 3) := by decide +kernel
theorem dX5_within_14 : decode cX5_within 14 = .ok (.iconst 0, 1) := by decide +kernel
theorem dX5_within_15 : decode cX5_within 15 = .ok (.ireturn, 1) := by decide +kernel
theorem dX5_isKind_0 : decode cX5_isKind 0 = .ok (.iload_n 0, 1) := by decide +kernel
theorem dX5_isKind_1 : decode cX5_isKind 1 = .ok (.iconst 0, 1) := by decide +kernel
theorem dX5_isKind_2 : decode cX5_isKind 2 = .ok (.bipush 6, 2) := by decide +kernel
theorem dX5_isKind_4 : decode cX5_isKind 4 = .ok (.invokestatic 69, 3) := by decide +kernel
theorem dX5_isKind_7 : decode cX5_isKind 7 = .ok (.ireturn, 1) := by decide +kernel
theorem dX5_isTown_0 : decode cX5_isTown 0 = .ok (.iload_n 0, 1) := by decide +kernel
theorem dX5_isTown_1 : decode cX5_isTown 1 = .ok (.iconst 0, 1) := by decide +kernel
theorem dX5_isTown_2 : decode cX5_isTown 2 = .ok (.bipush 7, 2) := by decide +kernel
theorem dX5_isTown_4 : decode cX5_isTown 4 = .ok (.invokestatic 69, 3) := by decide +kernel
theorem dX5_isTown_7 : decode cX5_isTown 7 = .ok (.ireturn, 1) := by decide +kernel
theorem dX5_arePair_0 : decode cX5_arePair 0 = .ok (.iload_n 0, 1) := by decide +kernel
theorem dX5_arePair_1 : decode cX5_arePair 1 = .ok (.invokestatic 149, 3) := by decide +kernel
theorem dX5_arePair_4 : decode cX5_arePair 4 = .ok (.ifCond .eq 19, 3) := by decide +kernel
theorem dX5_arePair_7 : decode cX5_arePair 7 = .ok (.iload_n 1, 1) := by decide +kernel
theorem dX5_arePair_8 : decode cX5_arePair 8 = .ok (.invokestatic 149, 3) := by decide +kernel
theorem dX5_arePair_11 : decode cX5_arePair 11 = .ok (.ifCond .eq 12, 3) := by decide +kernel
theorem dX5_arePair_14 : decode cX5_arePair 14 = .ok (.iload_n 0, 1) := by decide +kernel
theorem dX5_arePair_15 : decode cX5_arePair 15 = .ok (.iload_n 1, 1) := by decide +kernel
theorem dX5_arePair_16 : decode cX5_arePair 16 = .ok (.if_icmp .eq 7, 3) := by decide +kernel
theorem dX5_arePair_19 : decode cX5_arePair 19 = .ok (.iconst 1, 1) := by decide +kernel
theorem dX5_arePair_20 : decode cX5_arePair 20 = .ok (.goto 4, 3) := by decide +kernel
theorem dX5_arePair_23 : decode cX5_arePair 23 = .ok (.iconst 0, 1) := by decide +kernel
theorem dX5_arePair_24 : decode cX5_arePair 24 = .ok (.ireturn, 1) := by decide +kernel
theorem dX5_areDays_0 : decode cX5_areDays 0 = .ok (.iload_n 0, 1) := by decide +kernel
theorem dX5_areDays_1 : decode cX5_areDays 1 = .ok (.bipush (-99), 2) := by decide +kernel
theorem dX5_areDays_3 : decode cX5_areDays 3 = .ok (.bipush 99, 2) := by decide +kernel
theorem dX5_areDays_5 : decode cX5_areDays 5 = .ok (.invokestatic 69, 3) := by decide +kernel
theorem dX5_areDays_8 : decode cX5_areDays 8 = .ok (.ireturn, 1) := by decide +kernel
theorem dX5_isPart_0 : decode cX5_isPart 0 = .ok (.iload_n 1, 1) := by decide +kernel
theorem dX5_isPart_1 : decode cX5_isPart 1 = .ok (.tableswitch 83 0 5 #[39, 44, 53, 62, 67, 76], 39) := by decide +kernel
theorem dX5_isPart_40 : decode cX5_isPart 40 = .ok (.iload_n 2, 1) := by decide +kernel
theorem dX5_isPart_41 : decode cX5_isPart 41 = .ok (.invokestatic 58, 3) := by decide +kernel
theorem dX5_isPart_44 : decode cX5_isPart 44 = .ok (.ireturn, 1) := by decide +kernel
theorem dX5_isPart_45 : decode cX5_isPart 45 = .ok (.iload_n 2, 1) := by decide +kernel
theorem dX5_isPart_46 : decode cX5_isPart 46 = .ok (.aload_n 0, 1) := by decide +kernel
theorem dX5_isPart_47 : decode cX5_isPart 47 = .ok (.getfield 291, 3) := by decide +kernel
theorem dX5_isPart_50 : decode cX5_isPart 50 = .ok (.invokestatic 62, 3) := by decide +kernel
theorem dX5_isPart_53 : decode cX5_isPart 53 = .ok (.ireturn, 1) := by decide +kernel
theorem dX5_isPart_54 : decode cX5_isPart 54 = .ok (.aload_n 0, 1) := by decide +kernel
theorem dX5_isPart_55 : decode cX5_isPart 55 = .ok (.getfield 288, 3) := by decide +kernel
theorem dX5_isPart_58 : decode cX5_isPart 58 = .ok (.iload_n 2, 1) := by decide +kernel
theorem dX5_isPart_59 : decode cX5_isPart 59 = .ok (.invokestatic 62, 3) := by decide +kernel
theorem dX5_isPart_62 : decode cX5_isPart 62 = .ok (.ireturn, 1) := by decide +kernel
theorem dX5_isPart_63 : decode cX5_isPart 63 = .ok (.iload_n 2, 1) := by decide +kernel
theorem dX5_isPart_64 : decode cX5_isPart 64 = .ok (.invokestatic 66, 3) := by decide +kernel
theorem dX5_isPart_67 : decode cX5_isPart 67 = .ok (.ireturn, 1) := by decide +kernel
theorem dX5_isPart_68 : decode cX5_isPart 68 = .ok (.iload_n 2, 1) := by decide +kernel
theorem dX5_isPart_69 : decode cX5_isPart 69 = .ok (.iconst 0, 1) := by decide +kernel
theorem dX5_isPart_70 : decode cX5_isPart 70 = .ok (.sipush 999, 3) := by decide +kernel
theorem dX5_isPart_73 : decode cX5_isPart 73 = .ok (.invokestatic 69, 3) := by decide +kernel
theorem dX5_isPart_76 : decode cX5_isPart 76 = .ok (.ireturn, 1) := by decide +kernel
theorem dX5_isPart_77 : decode cX5_isPart 77 = .ok (.iload_n 2, 1) := by decide +kernel
theorem dX5_isPart_78 : decode cX5_isPart 78 = .ok (.iconst 0, 1) := by decide +kernel
theorem dX5_isPart_79 : decode cX5_isPart 79 = .ok (.iconst 1, 1) := by decide +kernel
theorem dX5_isPart_80 : decode cX5_isPart 80 = .ok (.invokestatic 69, 3) := by decide +kernel
theorem dX5_isPart_83 : decode cX5_isPart 83 = .ok (.ireturn, 1) := by decide +kernel
theorem dX5_isPart_84 : decode cX5_isPart 84 = .ok (.iconst 0, 1) := by decide +kernel
theorem dX5_isPart_85 : decode cX5_isPart 85 = .ok (.ireturn, 1) := by decide +kernel
theorem dX5_isUnder_0 : decode cX5_isUnder 0 = .ok (.iload_n 0, 1) := by decide +kernel
theorem dX5_isUnder_1 : decode cX5_isUnder 1 = .ok (.istore_n 2, 1) := by decide +kernel
theorem dX5_isUnder_2 : decode cX5_isUnder 2 = .ok (.iconst 0, 1) := by decide +kernel
theorem dX5_isUnder_3 : decode cX5_isUnder 3 = .ok (.istore_n 3, 1) := by decide +kernel
theorem dX5_isUnder_4 : decode cX5_isUnder 4 = .ok (.iload_n 3, 1) := by decide +kernel
theorem dX5_isUnder_5 : decode cX5_isUnder 5 = .ok (.bipush 7, 2) := by decide +kernel
theorem dX5_isUnder_7 : decode cX5_isUnder 7 = .ok (.if_icmp .ge 26, 3) := by decide +kernel
theorem dX5_isUnder_10 : decode cX5_isUnder 10 = .ok (.iload_n 2, 1) := by decide +kernel
theorem dX5_isUnder_11 : decode cX5_isUnder 11 = .ok (.iconst (-1), 1) := by decide +kernel
theorem dX5_isUnder_12 : decode cX5_isUnder 12 = .ok (.if_icmp .eq 21, 3) := by decide +kernel
theorem dX5_isUnder_15 : decode cX5_isUnder 15 = .ok (.iload_n 2, 1) := by decide +kernel
theorem dX5_isUnder_16 : decode cX5_isUnder 16 = .ok (.iload_n 1, 1) := by decide +kernel
theorem dX5_isUnder_17 : decode cX5_isUnder 17 = .ok (.if_icmp .ne 5, 3) := by decide +kernel
theorem dX5_isUnder_20 : decode cX5_isUnder 20 = .ok (.iconst 1, 1) := by decide +kernel
theorem dX5_isUnder_21 : decode cX5_isUnder 21 = .ok (.ireturn, 1) := by decide +kernel
theorem dX5_isUnder_22 : decode cX5_isUnder 22 = .ok (.iload_n 2, 1) := by decide +kernel
theorem dX5_isUnder_23 : decode cX5_isUnder 23 = .ok (.invokestatic 297, 3) := by decide +kernel
theorem dX5_isUnder_26 : decode cX5_isUnder 26 = .ok (.istore_n 2, 1) := by decide +kernel
theorem dX5_isUnder_27 : decode cX5_isUnder 27 = .ok (.iinc 3 1, 3) := by decide +kernel
theorem dX5_isUnder_30 : decode cX5_isUnder 30 = .ok (.goto (-26), 3) := by decide +kernel
theorem dX5_isUnder_33 : decode cX5_isUnder 33 = .ok (.iconst 0, 1) := by decide +kernel
theorem dX5_isUnder_34 : decode cX5_isUnder 34 = .ok (.ireturn, 1) := by decide +kernel
theorem dX5_isSheet_0 : decode cX5_isSheet 0 = .ok (.iload_n 0, 1) := by decide +kernel
theorem dX5_isSheet_1 : decode cX5_isSheet 1 = .ok (.iconst 0, 1) := by decide +kernel
theorem dX5_isSheet_2 : decode cX5_isSheet 2 = .ok (.iconst 3, 1) := by decide +kernel
theorem dX5_isSheet_3 : decode cX5_isSheet 3 = .ok (.invokestatic 69, 3) := by decide +kernel
theorem dX5_isSheet_6 : decode cX5_isSheet 6 = .ok (.ireturn, 1) := by decide +kernel
theorem dX5_sheetTrouble_0 : decode cX5_sheetTrouble 0 = .ok (.iload_n 1, 1) := by decide +kernel
theorem dX5_sheetTrouble_1 : decode cX5_sheetTrouble 1 = .ok (.invokestatic 237, 3) := by decide +kernel
theorem dX5_sheetTrouble_4 : decode cX5_sheetTrouble 4 = .ok (.ifCond .ne 5, 3) := by decide +kernel
theorem dX5_sheetTrouble_7 : decode cX5_sheetTrouble 7 = .ok (.iconst 0, 1) := by decide +kernel
theorem dX5_sheetTrouble_8 : decode cX5_sheetTrouble 8 = .ok (.ireturn, 1) := by decide +kernel
theorem dX5_sheetTrouble_9 : decode cX5_sheetTrouble 9 = .ok (.aload_n 0, 1) := by decide +kernel
theorem dX5_sheetTrouble_10 : decode cX5_sheetTrouble 10 = .ok (.getfield 49, 3) := by decide +kernel
theorem dX5_sheetTrouble_13 : decode cX5_sheetTrouble 13 = .ok (.iload_n 1, 1) := by decide +kernel
theorem dX5_sheetTrouble_14 : decode cX5_sheetTrouble 14 = .ok (.aaload, 1) := by decide +kernel
theorem dX5_sheetTrouble_15 : decode cX5_sheetTrouble 15 = .ok (.invokevirtual 250, 3) := by decide +kernel
theorem dX5_sheetTrouble_18 : decode cX5_sheetTrouble 18 = .ok (.ifCond .eq 7, 3) := by decide +kernel
theorem dX5_sheetTrouble_21 : decode cX5_sheetTrouble 21 = .ok (.iconst 5, 1) := by decide +kernel
theorem dX5_sheetTrouble_22 : decode cX5_sheetTrouble 22 = .ok (.goto 4, 3) := by decide +kernel
theorem dX5_sheetTrouble_25 : decode cX5_sheetTrouble 25 = .ok (.iconst (-1), 1) := by decide +kernel
theorem dX5_sheetTrouble_26 : decode cX5_sheetTrouble 26 = .ok (.ireturn, 1) := by decide +kernel
theorem dX5_placesTrouble_0 : decode cX5_placesTrouble 0 = .ok (.aload_n 0, 1) := by decide +kernel
theorem dX5_placesTrouble_1 : decode cX5_placesTrouble 1 = .ok (.iload_n 1, 1) := by decide +kernel
theorem dX5_placesTrouble_2 : decode cX5_placesTrouble 2 = .ok (.invokevirtual 244, 3) := by decide +kernel
theorem dX5_placesTrouble_5 : decode cX5_placesTrouble 5 = .ok (.istore_n 2, 1) := by decide +kernel
theorem dX5_placesTrouble_6 : decode cX5_placesTrouble 6 = .ok (.iload_n 2, 1) := by decide +kernel
theorem dX5_placesTrouble_7 : decode cX5_placesTrouble 7 = .ok (.iconst (-1), 1) := by decide +kernel
theorem dX5_placesTrouble_8 : decode cX5_placesTrouble 8 = .ok (.if_icmp .eq 5, 3) := by decide +kernel
theorem dX5_placesTrouble_11 : decode cX5_placesTrouble 11 = .ok (.iload_n 2, 1) := by decide +kernel
theorem dX5_placesTrouble_12 : decode cX5_placesTrouble 12 = .ok (.ireturn, 1) := by decide +kernel
theorem dX5_placesTrouble_13 : decode cX5_placesTrouble 13 = .ok (.aload_n 0, 1) := by decide +kernel
theorem dX5_placesTrouble_14 : decode cX5_placesTrouble 14 = .ok (.getfield 49, 3) := by decide +kernel
theorem dX5_placesTrouble_17 : decode cX5_placesTrouble 17 = .ok (.iload_n 1, 1) := by decide +kernel
theorem dX5_placesTrouble_18 : decode cX5_placesTrouble 18 = .ok (.aaload, 1) := by decide +kernel
theorem dX5_placesTrouble_19 : decode cX5_placesTrouble 19 = .ok (.invokevirtual 300, 3) := by decide +kernel
theorem dX5_placesTrouble_22 : decode cX5_placesTrouble 22 = .ok (.ifCond .eq 7, 3) := by decide +kernel
theorem dX5_placesTrouble_25 : decode cX5_placesTrouble 25 = .ok (.iconst (-1), 1) := by decide +kernel
theorem dX5_placesTrouble_26 : decode cX5_placesTrouble 26 = .ok (.goto 4, 3) := by decide +kernel
theorem dX5_placesTrouble_29 : decode cX5_placesTrouble 29 = .ok (.iconst 4, 1) := by decide +kernel
theorem dX5_placesTrouble_30 : decode cX5_placesTrouble 30 = .ok (.ireturn, 1) := by decide +kernel
end
section
theorem dX6_init_0 : decode cX6_init 0 = .ok (.aload_n 0, 1) := by decide +kernel
theorem dX6_init_1 : decode cX6_init 1 = .ok (.invokespecial 1, 3) := by decide +kernel
theorem dX6_init_4 : decode cX6_init 4 = .ok (.aload_n 0, 1) := by decide +kernel
theorem dX6_init_5 : decode cX6_init 5 = .ok (.bipush 63, 2) := by decide +kernel
theorem dX6_init_7 : decode cX6_init 7 = .ok (.newarray .int, 2) := by decide +kernel
theorem dX6_init_9 : decode cX6_init 9 = .ok (.putfield 7, 3) := by decide +kernel
theorem dX6_init_12 : decode cX6_init 12 = .ok (.aload_n 0, 1) := by decide +kernel
theorem dX6_init_13 : decode cX6_init 13 = .ok (.bipush 63, 2) := by decide +kernel
theorem dX6_init_15 : decode cX6_init 15 = .ok (.newarray .int, 2) := by decide +kernel
theorem dX6_init_17 : decode cX6_init 17 = .ok (.putfield 13, 3) := by decide +kernel
theorem dX6_init_20 : decode cX6_init 20 = .ok (.aload_n 0, 1) := by decide +kernel
theorem dX6_init_21 : decode cX6_init 21 = .ok (.bipush 63, 2) := by decide +kernel
theorem dX6_init_23 : decode cX6_init 23 = .ok (.newarray .int, 2) := by decide +kernel
theorem dX6_init_25 : decode cX6_init 25 = .ok (.putfield 16, 3) := by decide +kernel
theorem dX6_init_28 : decode cX6_init 28 = .ok (.aload_n 0, 1) := by decide +kernel
theorem dX6_init_29 : decode cX6_init 29 = .ok (.bipush 8, 2) := by decide +kernel
theorem dX6_init_31 : decode cX6_init 31 = .ok (.newarray .int, 2) := by decide +kernel
theorem dX6_init_33 : decode cX6_init 33 = .ok (.putfield 19, 3) := by decide +kernel
theorem dX6_init_36 : decode cX6_init 36 = .ok (.aload_n 0, 1) := by decide +kernel
theorem dX6_init_37 : decode cX6_init 37 = .ok (.bipush 120, 2) := by decide +kernel
theorem dX6_init_39 : decode cX6_init 39 = .ok (.newarray .int, 2) := by decide +kernel
theorem dX6_init_41 : decode cX6_init 41 = .ok (.putfield 22, 3) := by decide +kernel
theorem dX6_init_44 : decode cX6_init 44 = .ok (.aload_n 0, 1) := by decide +kernel
theorem dX6_init_45 : decode cX6_init 45 = .ok (.iconst 4, 1) := by decide +kernel
theorem dX6_init_46 : decode cX6_init 46 = .ok (.newarray .int, 2) := by decide +kernel
theorem dX6_init_48 : decode cX6_init 48 = .ok (.dup, 1) := by decide +kernel
theorem dX6_init_49 : decode cX6_init 49 = .ok (.iconst 0, 1) := by decide +kernel
theorem dX6_init_50 : decode cX6_init 50 = .ok (.iconst (-1), 1) := by decide +kernel
theorem dX6_init_51 : decode cX6_init 51 = .ok (.iastore, 1) := by decide +kernel
theorem dX6_init_52 : decode cX6_init 52 = .ok (.dup, 1) := by decide +kernel
theorem dX6_init_53 : decode cX6_init 53 = .ok (.iconst 1, 1) := by decide +kernel
theorem dX6_init_54 : decode cX6_init 54 = .ok (.iconst (-1), 1) := by decide +kernel
theorem dX6_init_55 : decode cX6_init 55 = .ok (.iastore, 1) := by decide +kernel
theorem dX6_init_56 : decode cX6_init 56 = .ok (.dup, 1) := by decide +kernel
theorem dX6_init_57 : decode cX6_init 57 = .ok (.iconst 2, 1) := by decide +kernel
theorem dX6_init_58 : decode cX6_init 58 = .ok (.iconst (-1), 1) := by decide +kernel
theorem dX6_init_59 : decode cX6_init 59 = .ok (.iastore, 1) := by decide +kernel
theorem dX6_init_60 : decode cX6_init 60 = .ok (.dup, 1) := by decide +kernel
theorem dX6_init_61 : decode cX6_init 61 = .ok (.iconst 3, 1) := by decide +kernel
theorem dX6_init_62 : decode cX6_init 62 = .ok (.iconst (-1), 1) := by decide +kernel
theorem dX6_init_63 : decode cX6_init 63 = .ok (.iastore, 1) := by decide +kernel
theorem dX6_init_64 : decode cX6_init 64 = .ok (.putfield 25, 3) := by decide +kernel
theorem dX6_init_67 : decode cX6_init 67 = .ok (.aload_n 0, 1) := by decide +kernel
theorem dX6_init_68 : decode cX6_init 68 = .ok (.iconst 4, 1) := by decide +kernel
theorem dX6_init_69 : decode cX6_init 69 = .ok (.newarray .int, 2) := by decide +kernel
theorem dX6_init_71 : decode cX6_init 71 = .ok (.putfield 28, 3) := by decide +kernel
theorem dX6_init_74 : decode cX6_init 74 = .ok (.aload_n 0, 1) := by decide +kernel
theorem dX6_init_75 : decode cX6_init 75 = .ok (.sipush 160, 3) := by decide +kernel
theorem dX6_init_78 : decode cX6_init 78 = .ok (.newarray .int, 2) := by decide +kernel
theorem dX6_init_80 : decode cX6_init 80 = .ok (.putfield 31, 3) := by decide +kernel
theorem dX6_init_83 : decode cX6_init 83 = .ok (.aload_n 0, 1) := by decide +kernel
theorem dX6_init_84 : decode cX6_init 84 = .ok (.bipush 64, 2) := by decide +kernel
theorem dX6_init_86 : decode cX6_init 86 = .ok (.newarray .int, 2) := by decide +kernel
theorem dX6_init_88 : decode cX6_init 88 = .ok (.putfield 34, 3) := by decide +kernel
theorem dX6_init_91 : decode cX6_init 91 = .ok (.aload_n 0, 1) := by decide +kernel
theorem dX6_init_92 : decode cX6_init 92 = .ok (.getfield 7, 3) := by decide +kernel
theorem dX6_init_95 : decode cX6_init 95 = .ok (.iconst 4, 1) := by decide +kernel
theorem dX6_init_96 : decode cX6_init 96 = .ok (.iconst 1, 1) := by decide +kernel
theorem dX6_init_97 : decode cX6_init 97 = .ok (.iastore, 1) := by decide +kernel
theorem dX6_init_98 : decode cX6_init 98 = .ok (.iconst 0, 1) := by decide +kernel
theorem dX6_init_99 : decode cX6_init 99 = .ok (.istore_n 1, 1) := by decide +kernel
theorem dX6_init_100 : decode cX6_init 100 = .ok (.iload_n 1, 1) := by decide +kernel
theorem dX6_init_101 : decode cX6_init 101 = .ok (.bipush 10, 2) := by decide +kernel
theorem dX6_init_103 : decode cX6_init 103 = .ok (.if_icmp .ge 19, 3) := by decide +kernel
theorem dX6_init_106 : decode cX6_init 106 = .ok (.aload_n 0, 1) := by decide +kernel
theorem dX6_init_107 : decode cX6_init 107 = .ok (.getfield 7, 3) := by decide +kernel
theorem dX6_init_110 : decode cX6_init 110 = .ok (.bipush 53, 2) := by decide +kernel
theorem dX6_init_112 : decode cX6_init 112 = .ok (.iload_n 1, 1) := by decide +kernel
theorem dX6_init_113 : decode cX6_init 113 = .ok (.iadd, 1) := by decide +kernel
theorem dX6_init_114 : decode cX6_init 114 = .ok (.iconst (-1), 1) := by decide +kernel
theorem dX6_init_115 : decode cX6_init 115 = .ok (.iastore, 1) := by decide +kernel
theorem dX6_init_116 : decode cX6_init 116 = .ok (.iinc 1 1, 3) := by decide +kernel
theorem dX6_init_119 : decode cX6_init 119 = .ok (.goto (-19), 3) := by decide +kernel
theorem dX6_init_122 : decode cX6_init 122 = .ok (.return_, 1) := by decide +kernel
theorem dX6_isIn_0 : decode cX6_isIn 0 = .ok (.lload_n 0, 1) := by decide +kernel
theorem dX6_isIn_1 : decode cX6_isIn 1 = .ok (.lload_n 2, 1) := by decide +kernel
theorem dX6_isIn_2 : decode cX6_isIn 2 = .ok (.lcmp, 1) := by decide +kernel
theorem dX6_isIn_3 : decode cX6_isIn 3 = .ok (.ifCond .lt 14, 3) := by decide +kernel
theorem dX6_isIn_6 : decode cX6_isIn 6 = .ok (.lload_n 0, 1) := by decide +kernel
theorem dX6_isIn_7 : decode cX6_isIn 7 = .ok (.lload 4, 2) := by decide +kernel
theorem dX6_isIn_9 : decode cX6_isIn 9 = .ok (.lcmp, 1) := by decide +kernel
theorem dX6_isIn_10 : decode cX6_isIn 10 = .ok (.ifCond .gt 7, 3) := by decide +kernel
theorem dX6_isIn_13 : decode cX6_isIn 13 = .ok (.iconst 1, 1) := by decide +kernel
theorem dX6_isIn_14 : decode cX6_isIn 14 = .ok (.goto 4, 3) := by decide +kernel
theorem dX6_isIn_17 : decode cX6_isIn 17 = .ok (.iconst 0, 1) := by decide +kernel
theorem dX6_isIn_18 : decode cX6_isIn 18 = .ok (.ireturn, 1) := by decide +kernel
theorem dX6_finds_0 : decode cX6_finds 0 = .ok (.aload_n 0, 1) := by decide +kernel
theorem dX6_finds_1 : decode cX6_finds 1 = .ok (.getfield 19, 3) := by decide +kernel
theorem dX6_finds_4 : decode cX6_finds 4 = .ok (.iconst 0, 1) := by decide +kernel
theorem dX6_finds_5 : decode cX6_finds 5 = .ok (.dup2, 1) := by decide +kernel
theorem dX6_finds_6 : decode cX6_finds 6 = .ok (.iaload, 1) := by decide +kernel
theorem dX6_finds_7 : decode cX6_finds 7 = .ok (.iconst 1, 1) := by decide +kernel
theorem dX6_finds_8 : decode cX6_finds 8 = .ok (.iadd, 1) := by decide +kernel
theorem dX6_finds_9 : decode cX6_finds 9 = .ok (.iastore, 1) := by decide +kernel
theorem dX6_finds_10 : decode cX6_finds 10 = .ok (.aload_n 0, 1) := by decide +kernel
theorem dX6_finds_11 : decode cX6_finds 11 = .ok (.getfield 19, 3) := by decide +kernel
theorem dX6_finds_14 : decode cX6_finds 14 = .ok (.ldc 37, 2) := by decide +kernel
theorem dX6_finds_16 : decode cX6_finds 16 = .ok (.iload_n 1, 1) := by decide +kernel
theorem dX6_finds_17 : decode cX6_finds 17 = .ok (.isub, 1) := by decide +kernel
theorem dX6_finds_18 : decode cX6_finds 18 = .ok (.iconst 1, 1) := by decide +kernel
theorem dX6_finds_19 : decode cX6_finds 19 = .ok (.iadd, 1) := by decide +kernel
theorem dX6_finds_20 : decode cX6_finds 20 = .ok (.dup2, 1) := by decide +kernel
theorem dX6_finds_21 : decode cX6_finds 21 = .ok (.iaload, 1) := by decide +kernel
theorem dX6_finds_22 : decode cX6_finds 22 = .ok (.iconst 1, 1) := by decide +kernel
theorem dX6_finds_23 : decode cX6_finds 23 = .ok (.iadd, 1) := by decide +kernel
theorem dX6_finds_24 : decode cX6_finds 24 = .ok (.iastore, 1) := by decide +kernel
theorem dX6_finds_25 : decode cX6_finds 25 = .ok (.iload_n 1, 1) := by decide +kernel
theorem dX6_finds_26 : decode cX6_finds 26 = .ok (.ireturn, 1) := by decide +kernel
theorem dX6_becomes_0 : decode cX6_becomes 0 = .ok (.aload_n 0, 1) := by decide +kernel
theorem dX6_becomes_1 : decode cX6_becomes 1 = .ok (.getfield 7, 3) := by decide +kernel
theorem dX6_becomes_4 : decode cX6_becomes 4 = .ok (.iload_n 1, 1) := by decide +kernel
theorem dX6_becomes_5 : decode cX6_becomes 5 = .ok (.iaload, 1) := by decide +kernel
theorem dX6_becomes_6 : decode cX6_becomes 6 = .ok (.istore_n 3, 1) := by decide +kernel
theorem dX6_becomes_7 : decode cX6_becomes 7 = .ok (.aload_n 0, 1) := by decide +kernel
theorem dX6_becomes_8 : decode cX6_becomes 8 = .ok (.getfield 7, 3) := by decide +kernel
theorem dX6_becomes_11 : decode cX6_becomes 11 = .ok (.iload_n 1, 1) := by decide +kernel
theorem dX6_becomes_12 : decode cX6_becomes 12 = .ok (.iload_n 2, 1) := by decide +kernel
theorem dX6_becomes_13 : decode cX6_becomes 13 = .ok (.iastore, 1) := by decide +kernel
theorem dX6_becomes_14 : decode cX6_becomes 14 = .ok (.iload_n 3, 1) := by decide +kernel
theorem dX6_becomes_15 : decode cX6_becomes 15 = .ok (.ireturn, 1) := by decide +kernel
theorem dX6_copyRow_0 : decode cX6_copyRow 0 = .ok (.iconst 0, 1) := by decide +kernel
theorem dX6_copyRow_1 : decode cX6_copyRow 1 = .ok (.istore_n 2, 1) := by decide +kernel
theorem dX6_copyRow_2 : decode cX6_copyRow 2 = .ok (.iload_n 2, 1) := by decide +kernel
theorem dX6_copyRow_3 : decode cX6_copyRow 3 = .ok (.bipush 63, 2) := by decide +kernel
theorem dX6_copyRow_5 : decode cX6_copyRow 5 = .ok (.if_icmp .ge 15, 3) := by decide +kernel
theorem dX6_copyRow_8 : decode cX6_copyRow 8 = .ok (.aload_n 1, 1) := by decide +kernel
theorem dX6_copyRow_9 : decode cX6_copyRow 9 = .ok (.iload_n 2, 1) := by decide +kernel
theorem dX6_copyRow_10 : decode cX6_copyRow 10 = .ok (.aload_n 0, 1) := by decide +kernel
theorem dX6_copyRow_11 : decode cX6_copyRow 11 = .ok (.iload_n 2, 1) := by decide +kernel
theorem dX6_copyRow_12 : decode cX6_copyRow 12 = .ok (.iaload, 1) := by decide +kernel
theorem dX6_copyRow_13 : decode cX6_copyRow 13 = .ok (.iastore, 1) := by decide +kernel
theorem dX6_copyRow_14 : decode cX6_copyRow 14 = .ok (.iinc 2 1, 3) := by decide +kernel
theorem dX6_copyRow_17 : decode cX6_copyRow 17 = .ok (.goto (-15), 3) := by decide +kernel
theorem dX6_copyRow_20 : decode cX6_copyRow 20 = .ok (.return_, 1) := by decide +kernel
theorem dX6_isTown_0 : decode cX6_isTown 0 = .ok (.iload_n 0, 1) := by decide +kernel
theorem dX6_isTown_1 : decode cX6_isTown 1 = .ok (.ifCond .lt 13, 3) := by decide +kernel
theorem dX6_isTown_4 : decode cX6_isTown 4 = .ok (.iload_n 0, 1) := by decide +kernel
theorem dX6_isTown_5 : decode cX6_isTown 5 = .ok (.bipush 8, 2) := by decide +kernel
theorem dX6_isTown_7 : decode cX6_isTown 7 = .ok (.if_icmp .ge 7, 3) := by decide +kernel
theorem dX6_isTown_10 : decode cX6_isTown 10 = .ok (.iconst 1, 1) := by decide +kernel
theorem dX6_isTown_11 : decode cX6_isTown 11 = .ok (.goto 4, 3) := by decide +kernel
theorem dX6_isTown_14 : decode cX6_isTown 14 = .ok (.iconst 0, 1) := by decide +kernel
theorem dX6_isTown_15 : decode cX6_isTown 15 = .ok (.ireturn, 1) := by decide +kernel
theorem dX6_isPair_0 : decode cX6_isPair 0 = .ok (.iload_n 0, 1) := by decide +kernel
theorem dX6_isPair_1 : decode cX6_isPair 1 = .ok (.invokestatic 38, 3) := by decide +kernel
theorem dX6_isPair_4 : decode cX6_isPair 4 = .ok (.ifCond .eq 19, 3) := by decide +kernel
theorem dX6_isPair_7 : decode cX6_isPair 7 = .ok (.iload_n 1, 1) := by decide +kernel
theorem dX6_isPair_8 : decode cX6_isPair 8 = .ok (.invokestatic 38, 3) := by decide +kernel
theorem dX6_isPair_11 : decode cX6_isPair 11 = .ok (.ifCond .eq 12, 3) := by decide +kernel
theorem dX6_isPair_14 : decode cX6_isPair 14 = .ok (.iload_n 0, 1) := by decide +kernel
theorem dX6_isPair_15 : decode cX6_isPair 15 = .ok (.iload_n 1, 1) := by decide +kernel
theorem dX6_isPair_16 : decode cX6_isPair 16 = .ok (.if_icmp .eq 7, 3) := by decide +kernel
theorem dX6_isPair_19 : decode cX6_isPair 19 = .ok (.iconst 1, 1) := by decide +kernel
theorem dX6_isPair_20 : decode cX6_isPair 20 = .ok (.goto 4, 3) := by decide +kernel
theorem dX6_isPair_23 : decode cX6_isPair 23 = .ok (.iconst 0, 1) := by decide +kernel
theorem dX6_isPair_24 : decode cX6_isPair 24 = .ok (.ireturn, 1) := by decide +kernel
theorem dX6_isLetter_0 : decode cX6_isLetter 0 = .ok (.iload_n 1, 1) := by decide +kernel
theorem dX6_isLetter_1 : decode cX6_isLetter 1 = .ok (.ifCond .lt 17, 3) := by decide +kernel
theorem dX6_isLetter_4 : decode cX6_isLetter 4 = .ok (.iload_n 1, 1) := by decide +kernel
theorem dX6_isLetter_5 : decode cX6_isLetter 5 = .ok (.aload_n 0, 1) := by decide +kernel
theorem dX6_isLetter_6 : decode cX6_isLetter 6 = .ok (.getfield 7, 3) := by decide +kernel
theorem dX6_isLetter_9 : decode cX6_isLetter 9 = .ok (.iconst 0, 1) := by decide +kernel
theorem dX6_isLetter_10 : decode cX6_isLetter 10 = .ok (.iaload, 1) := by decide +kernel
theorem dX6_isLetter_11 : decode cX6_isLetter 11 = .ok (.if_icmp .ge 7, 3) := by decide +kernel
theorem dX6_isLetter_14 : decode cX6_isLetter 14 = .ok (.iconst 1, 1) := by decide +kernel
theorem dX6_isLetter_15 : decode cX6_isLetter 15 = .ok (.goto 4, 3) := by decide +kernel
theorem dX6_isLetter_18 : decode cX6_isLetter 18 = .ok (.iconst 0, 1) := by decide +kernel
theorem dX6_isLetter_19 : decode cX6_isLetter 19 = .ok (.ireturn, 1) := by decide +kernel
theorem dX6_isSet_0 : decode cX6_isSet 0 = .ok (.iload_n 1, 1) := by decide +kernel
theorem dX6_isSet_1 : decode cX6_isSet 1 = .ok (.i2l, 1) := by decide +kernel
theorem dX6_isSet_2 : decode cX6_isSet 2 = .ok (.lconst 0, 1) := by decide +kernel
theorem dX6_isSet_3 : decode cX6_isSet 3 = .ok (.iconst 1, 1) := by decide +kernel
theorem dX6_isSet_4 : decode cX6_isSet 4 = .ok (.aload_n 0, 1) := by decide +kernel
theorem dX6_isSet_5 : decode cX6_isSet 5 = .ok (.getfield 7, 3) := by decide +kernel
theorem dX6_isSet_8 : decode cX6_isSet 8 = .ok (.iconst 0, 1) := by decide +kernel
theorem dX6_isSet_9 : decode cX6_isSet 9 = .ok (.iaload, 1) := by decide +kernel
theorem dX6_isSet_10 : decode cX6_isSet 10 = .ok (.ishl, 1) := by decide +kernel
theorem dX6_isSet_11 : decode cX6_isSet 11 = .ok (.iconst 1, 1) := by decide +kernel
theorem dX6_isSet_12 : decode cX6_isSet 12 = .ok (.isub, 1) := by decide +kernel
theorem dX6_isSet_13 : decode cX6_isSet 13 = .ok (.i2l, 1) := by decide +kernel
theorem dX6_isSet_14 : decode cX6_isSet 14 = .ok (.invokestatic 42, 3) := by decide +kernel
theorem dX6_isSet_17 : decode cX6_isSet 17 = .ok (.ireturn, 1) := by decide +kernel
theorem dX6_its_0 : decode cX6_its 0 = .ok (.aload_n 0, 1) := by decide +kernel
theorem dX6_its_1 : decode cX6_its 1 = .ok (.getfield 7, 3) := by decide +kernel
theorem dX6_its_4 : decode cX6_its 4 = .ok (.iconst 5, 1) := by decide +kernel
theorem dX6_its_5 : decode cX6_its 5 = .ok (.bipush 6, 2) := by decide +kernel
theorem dX6_its_7 : decode cX6_its 7 = .ok (.iload_n 1, 1) := by decide +kernel
theorem dX6_its_8 : decode cX6_its 8 = .ok (.imul, 1) := by decide +kernel
theorem dX6_its_9 : decode cX6_its 9 = .ok (.iadd, 1) := by decide +kernel
theorem dX6_its_10 : decode cX6_its 10 = .ok (.iload_n 2, 1) := by decide +kernel
theorem dX6_its_11 : decode cX6_its 11 = .ok (.iadd, 1) := by decide +kernel
theorem dX6_its_12 : decode cX6_its 12 = .ok (.iaload, 1) := by decide +kernel
theorem dX6_its_13 : decode cX6_its 13 = .ok (.ireturn, 1) := by decide +kernel
theorem dX6_size_0 : decode cX6_size 0 = .ok (.iload_n 0, 1) := by decide +kernel
theorem dX6_size_1 : decode cX6_size 1 = .ok (.ifCond .ge 8, 3) := by decide +kernel
theorem dX6_size_4 : decode cX6_size 4 = .ok (.iload_n 0, 1) := by decide +kernel
theorem dX6_size_5 : decode cX6_size 5 = .ok (.ineg, 1) := by decide +kernel
theorem dX6_size_6 : decode cX6_size 6 = .ok (.goto 4, 3) := by decide +kernel
theorem dX6_size_9 : decode cX6_size 9 = .ok (.iload_n 0, 1) := by decide +kernel
theorem dX6_size_10 : decode cX6_size 10 = .ok (.ireturn, 1) := by decide +kernel
theorem dX6_orNone_0 : decode cX6_orNone 0 = .ok (.iload_n 1, 1) := by decide +kernel
theorem dX6_orNone_1 : decode cX6_orNone 1 = .ok (.ifCond .ge 12, 3) := by decide +kernel
theorem dX6_orNone_4 : decode cX6_orNone 4 = .ok (.aload_n 0, 1) := by decide +kernel
theorem dX6_orNone_5 : decode cX6_orNone 5 = .ok (.ldc 46, 2) := by decide +kernel
theorem dX6_orNone_7 : decode cX6_orNone 7 = .ok (.invokevirtual 47, 3) := by decide +kernel
theorem dX6_orNone_10 : decode cX6_orNone 10 = .ok (.goto 4, 3) := by decide +kernel
theorem dX6_orNone_13 : decode cX6_orNone 13 = .ok (.iload_n 1, 1) := by decide +kernel
theorem dX6_orNone_14 : decode cX6_orNone 14 = .ok (.ireturn, 1) := by decide +kernel
theorem dX6_leastOf_0 : decode cX6_leastOf 0 = .ok (.aload_n 0, 1) := by decide +kernel
theorem dX6_leastOf_1 : decode cX6_leastOf 1 = .ok (.iload_n 1, 1) := by decide +kernel
theorem dX6_leastOf_2 : decode cX6_leastOf 2 = .ok (.iconst 3, 1) := by decide +kernel
theorem dX6_leastOf_3 : decode cX6_leastOf 3 = .ok (.invokevirtual 51, 3) := by decide +kernel
theorem dX6_leastOf_6 : decode cX6_leastOf 6 = .ok (.istore_n 2, 1) := by decide +kernel
theorem dX6_leastOf_7 : decode cX6_leastOf 7 = .ok (.aload_n 0, 1) := by decide +kernel
theorem dX6_leastOf_8 : decode cX6_leastOf 8 = .ok (.iload_n 1, 1) := by decide +kernel
theorem dX6_leastOf_9 : decode cX6_leastOf 9 = .ok (.iconst 0, 1) := by decide +kernel
theorem dX6_leastOf_10 : decode cX6_leastOf 10 = .ok (.invokevirtual 51, 3) := by decide +kernel
theorem dX6_leastOf_13 : decode cX6_leastOf 13 = .ok (.tableswitch 64 1 6 #[39, 43, 45, 48, 53, 39], 39) := by decide +kernel
theorem dX6_leastOf_52 : decode cX6_leastOf 52 = .ok (.sipush (-999), 3) := by decide +kernel
theorem dX6_leastOf_55 : decode cX6_leastOf 55 = .ok (.ireturn, 1) := by decide +kernel
theorem dX6_leastOf_56 : decode cX6_leastOf 56 = .ok (.iload_n 2, 1) := by decide +kernel
theorem dX6_leastOf_57 : decode cX6_leastOf 57 = .ok (.ireturn, 1) := by decide +kernel
theorem dX6_leastOf_58 : decode cX6_leastOf 58 = .ok (.iload_n 2, 1) := by decide +kernel
theorem dX6_leastOf_59 : decode cX6_leastOf 59 = .ok (.ineg, 1) := by decide +kernel
theorem dX6_leastOf_60 : decode cX6_leastOf 60 = .ok (.ireturn, 1) := by decide +kernel
theorem dX6_leastOf_61 : decode cX6_leastOf 61 = .ok (.iload_n 2, 1) := by decide +kernel
theorem dX6_leastOf_62 : decode cX6_leastOf 62 = .ok (.ineg, 1) := by decide +kernel
theorem dX6_leastOf_63 : decode cX6_leastOf 63 = .ok (.iconst 1, 1) := by decide +kernel
theorem dX6_leastOf_64 : decode cX6_leastOf 64 = .ok (.isub, 1) := by decide +kernel
theorem dX6_leastOf_65 : decode cX6_leastOf 65 = .ok (.ireturn, 1) := by decide +kernel
theorem dX6_leastOf_66 : decode cX6_leastOf 66 = .ok (.iload_n 2, 1) := by decide +kernel
theorem dX6_leastOf_67 : decode cX6_leastOf 67 = .ok (.iconst 2, 1) := by decide +kernel
theorem dX6_leastOf_68 : decode cX6_leastOf 68 = .ok (.aload_n 0, 1) := by decide +kernel
theorem dX6_leastOf_69 : decode cX6_leastOf 69 = .ok (.getfield 7, 3) := by decide +kernel
theorem dX6_leastOf_72 : decode cX6_leastOf 72 = .ok (.iconst 2, 1) := by decide +kernel
theorem dX6_leastOf_73 : decode cX6_leastOf 73 = .ok (.iaload, 1) := by decide +kernel
theorem dX6_leastOf_74 : decode cX6_leastOf 74 = .ok (.imul, 1) := by decide +kernel
theorem dX6_leastOf_75 : decode cX6_leastOf 75 = .ok (.isub, 1) := by decide +kernel
theorem dX6_leastOf_76 : decode cX6_leastOf 76 = .ok (.ireturn, 1) := by decide +kernel
theorem dX6_leastOf_77 : decode cX6_leastOf 77 = .ok (.iload_n 2, 1) := by decide +kernel
theorem dX6_leastOf_78 : decode cX6_leastOf 78 = .ok (.aload_n 0, 1) := by decide +kernel
theorem dX6_leastOf_79 : decode cX6_leastOf 79 = .ok (.getfield 7, 3) := by decide +kernel
theorem dX6_leastOf_82 : decode cX6_leastOf 82 = .ok (.iconst 2, 1) := by decide +kernel
theorem dX6_leastOf_83 : decode cX6_leastOf 83 = .ok (.iaload, 1) := by decide +kernel
theorem dX6_leastOf_84 : decode cX6_leastOf 84 = .ok (.isub, 1) := by decide +kernel
theorem dX6_leastOf_85 : decode cX6_leastOf 85 = .ok (.ireturn, 1) := by decide +kernel
theorem dX6_mostOf_0 : decode cX6_mostOf 0 = .ok (.aload_n 0, 1) := by decide +kernel
theorem dX6_mostOf_1 : decode cX6_mostOf 1 = .ok (.iload_n 1, 1) := by decide +kernel
theorem dX6_mostOf_2 : decode cX6_mostOf 2 = .ok (.iconst 3, 1) := by decide +kernel
theorem dX6_mostOf_3 : decode cX6_mostOf 3 = .ok (.invokevirtual 51, 3) := by decide +kernel
theorem dX6_mostOf_6 : decode cX6_mostOf 6 = .ok (.istore_n 2, 1) := by decide +kernel
theorem dX6_mostOf_7 : decode cX6_mostOf 7 = .ok (.aload_n 0, 1) := by decide +kernel
theorem dX6_mostOf_8 : decode cX6_mostOf 8 = .ok (.iload_n 1, 1) := by decide +kernel
theorem dX6_mostOf_9 : decode cX6_mostOf 9 = .ok (.iconst 0, 1) := by decide +kernel
theorem dX6_mostOf_10 : decode cX6_mostOf 10 = .ok (.invokevirtual 51, 3) := by decide +kernel
theorem dX6_mostOf_13 : decode cX6_mostOf 13 = .ok (.tableswitch 67 2 6 #[35, 37, 40, 45, 56], 35) := by decide +kernel
theorem dX6_mostOf_48 : decode cX6_mostOf 48 = .ok (.iload_n 2, 1) := by decide +kernel
theorem dX6_mostOf_49 : decode cX6_mostOf 49 = .ok (.ireturn, 1) := by decide +kernel
theorem dX6_mostOf_50 : decode cX6_mostOf 50 = .ok (.iload_n 2, 1) := by decide +kernel
theorem dX6_mostOf_51 : decode cX6_mostOf 51 = .ok (.ineg, 1) := by decide +kernel
theorem dX6_mostOf_52 : decode cX6_mostOf 52 = .ok (.ireturn, 1) := by decide +kernel
theorem dX6_mostOf_53 : decode cX6_mostOf 53 = .ok (.iload_n 2, 1) := by decide +kernel
theorem dX6_mostOf_54 : decode cX6_mostOf 54 = .ok (.ineg, 1) := by decide +kernel
theorem dX6_mostOf_55 : decode cX6_mostOf 55 = .ok (.iconst 1, 1) := by decide +kernel
theorem dX6_mostOf_56 : decode cX6_mostOf 56 = .ok (.iadd, 1) := by decide +kernel
theorem dX6_mostOf_57 : decode cX6_mostOf 57 = .ok (.ireturn, 1) := by decide +kernel
theorem dX6_mostOf_58 : decode cX6_mostOf 58 = .ok (.iload_n 2, 1) := by decide +kernel
theorem dX6_mostOf_59 : decode cX6_mostOf 59 = .ok (.iconst 2, 1) := by decide +kernel
theorem dX6_mostOf_60 : decode cX6_mostOf 60 = .ok (.aload_n 0, 1) := by decide +kernel
theorem dX6_mostOf_61 : decode cX6_mostOf 61 = .ok (.getfield 7, 3) := by decide +kernel
theorem dX6_mostOf_64 : decode cX6_mostOf 64 = .ok (.iconst 2, 1) := by decide +kernel
theorem dX6_mostOf_65 : decode cX6_mostOf 65 = .ok (.iaload, 1) := by decide +kernel
theorem dX6_mostOf_66 : decode cX6_mostOf 66 = .ok (.imul, 1) := by decide +kernel
theorem dX6_mostOf_67 : decode cX6_mostOf 67 = .ok (.iadd, 1) := by decide +kernel
theorem dX6_mostOf_68 : decode cX6_mostOf 68 = .ok (.ireturn, 1) := by decide +kernel
theorem dX6_mostOf_69 : decode cX6_mostOf 69 = .ok (.iload_n 2, 1) := by decide +kernel
theorem dX6_mostOf_70 : decode cX6_mostOf 70 = .ok (.aload_n 0, 1) := by decide +kernel
theorem dX6_mostOf_71 : decode cX6_mostOf 71 = .ok (.getfield 7, 3) := by decide +kernel
theorem dX6_mostOf_74 : decode cX6_mostOf 74 = .ok (.iconst 2, 1) := by decide +kernel
theorem dX6_mostOf_75 : decode cX6_mostOf 75 = .ok (.iaload, 1) := by decide +kernel
theorem dX6_mostOf_76 : decode cX6_mostOf 76 = .ok (.iadd, 1) := by decide +kernel
theorem dX6_mostOf_77 : decode cX6_mostOf 77 = .ok (.iconst 5, 1) := by decide +kernel
theorem dX6_mostOf_78 : decode cX6_mostOf 78 = .ok (.iadd, 1) := by decide +kernel
theorem dX6_mostOf_79 : decode cX6_mostOf 79 = .ok (.ireturn, 1) := by decide +kernel
theorem dX6_mostOf_80 : decode cX6_mostOf 80 = .ok (.iload_n 2, 1) := by decide +kernel
theorem dX6_mostOf_81 : decode cX6_mostOf 81 = .ok (.aload_n 0, 1) := by decide +kernel
theorem dX6_mostOf_82 : decode cX6_mostOf 82 = .ok (.getfield 7, 3) := by decide +kernel
theorem dX6_mostOf_85 : decode cX6_mostOf 85 = .ok (.iconst 2, 1) := by decide +kernel
theorem dX6_mostOf_86 : decode cX6_mostOf 86 = .ok (.iaload, 1) := by decide +kernel
theorem dX6_mostOf_87 : decode cX6_mostOf 87 = .ok (.iadd, 1) := by decide +kernel
theorem dX6_mostOf_88 : decode cX6_mostOf 88 = .ok (.ireturn, 1) := by decide +kernel
theorem dX6_comesOn_0 : decode cX6_comesOn 0 = .ok (.aload_n 0, 1) := by decide +kernel
theorem dX6_comesOn_1 : decode cX6_comesOn 1 = .ok (.iload_n 1, 1) := by decide +kernel
theorem dX6_comesOn_2 : decode cX6_comesOn 2 = .ok (.iconst 3, 1) := by decide +kernel
theorem dX6_comesOn_3 : decode cX6_comesOn 3 = .ok (.invokevirtual 51, 3) := by decide +kernel
theorem dX6_comesOn_6 : decode cX6_comesOn 6 = .ok (.invokestatic 55, 3) := by decide +kernel
theorem dX6_comesOn_9 : decode cX6_comesOn 9 = .ok (.istore_n 2, 1) := by decide +kernel
theorem dX6_comesOn_10 : decode cX6_comesOn 10 = .ok (.aload_n 0, 1) := by decide +kernel
theorem dX6_comesOn_11 : decode cX6_comesOn 11 = .ok (.iload_n 1, 1) := by decide +kernel
theorem dX6_comesOn_12 : decode cX6_comesOn 12 = .ok (.iconst 4, 1) := by decide +kernel
theorem dX6_comesOn_13 : decode cX6_comesOn 13 = .ok (.invokevirtual 51, 3) := by decide +kernel
theorem dX6_comesOn_16 : decode cX6_comesOn 16 = .ok (.istore_n 3, 1) := by decide +kernel
theorem dX6_comesOn_17 : decode cX6_comesOn 17 = .ok (.aload_n 0, 1) := by decide +kernel
theorem dX6_comesOn_18 : decode cX6_comesOn 18 = .ok (.iload_n 1, 1) := by decide +kernel
theorem dX6_comesOn_19 : decode cX6_comesOn 19 = .ok (.iconst 0, 1) := by decide +kernel
theorem dX6_comesOn_20 : decode cX6_comesOn 20 = .ok (.invokevirtual 51, 3) := by decide +kernel
theorem dX6_comesOn_23 : decode cX6_comesOn 23 = .ok (.tableswitch 71 1 6 #[37, 52, 65, 67, 71, 43], 37) := by decide +kernel
theorem dX6_comesOn_60 : decode cX6_comesOn 60 = .ok (.iload_n 3, 1) := by decide +kernel
theorem dX6_comesOn_61 : decode cX6_comesOn 61 = .ok (.iload_n 2, 1) := by decide +kernel
theorem dX6_comesOn_62 : decode cX6_comesOn 62 = .ok (.iconst 2, 1) := by decide +kernel
theorem dX6_comesOn_63 : decode cX6_comesOn 63 = .ok (.idiv, 1) := by decide +kernel
theorem dX6_comesOn_64 : decode cX6_comesOn 64 = .ok (.iadd, 1) := by decide +kernel
theorem dX6_comesOn_65 : decode cX6_comesOn 65 = .ok (.ireturn, 1) := by decide +kernel
theorem dX6_comesOn_66 : decode cX6_comesOn 66 = .ok (.iload_n 3, 1) := by decide +kernel
theorem dX6_comesOn_67 : decode cX6_comesOn 67 = .ok (.iload_n 2, 1) := by decide +kernel
theorem dX6_comesOn_68 : decode cX6_comesOn 68 = .ok (.iconst 2, 1) := by decide +kernel
theorem dX6_comesOn_69 : decode cX6_comesOn 69 = .ok (.idiv, 1) := by decide +kernel
theorem dX6_comesOn_70 : decode cX6_comesOn 70 = .ok (.iadd, 1) := by decide +kernel
theorem dX6_comesOn_71 : decode cX6_comesOn 71 = .ok (.bipush 10, 2) := by decide +kernel
theorem dX6_comesOn_73 : decode cX6_comesOn 73 = .ok (.iadd, 1) := by decide +kernel
theorem dX6_comesOn_74 : decode cX6_comesOn 74 = .ok (.ireturn, 1) := by decide +kernel
theorem dX6_comesOn_75 : decode cX6_comesOn 75 = .ok (.iload_n 3, 1) := by decide +kernel
theorem dX6_comesOn_76 : decode cX6_comesOn 76 = .ok (.iload_n 2, 1) := by decide +kernel
theorem dX6_comesOn_77 : decode cX6_comesOn 77 = .ok (.iadd, 1) := by decide +kernel
theorem dX6_comesOn_78 : decode cX6_comesOn 78 = .ok (.aload_n 0, 1) := by decide +kernel
theorem dX6_comesOn_79 : decode cX6_comesOn 79 = .ok (.getfield 7, 3) := by decide +kernel
theorem dX6_comesOn_82 : decode cX6_comesOn 82 = .ok (.iconst 3, 1) := by decide +kernel
theorem dX6_comesOn_83 : decode cX6_comesOn 83 = .ok (.iaload, 1) := by decide +kernel
theorem dX6_comesOn_84 : decode cX6_comesOn 84 = .ok (.iadd, 1) := by decide +kernel
theorem dX6_comesOn_85 : decode cX6_comesOn 85 = .ok (.iconst 1, 1) := by decide +kernel
theorem dX6_comesOn_86 : decode cX6_comesOn 86 = .ok (.iadd, 1) := by decide +kernel
theorem dX6_comesOn_87 : decode cX6_comesOn 87 = .ok (.ireturn, 1) := by decide +kernel
theorem dX6_comesOn_88 : decode cX6_comesOn 88 = .ok (.iload_n 3, 1) := by decide +kernel
theorem dX6_comesOn_89 : decode cX6_comesOn 89 = .ok (.ireturn, 1) := by decide +kernel
theorem dX6_comesOn_90 : decode cX6_comesOn 90 = .ok (.iload_n 3, 1) := by decide +kernel
theorem dX6_comesOn_91 : decode cX6_comesOn 91 = .ok (.iconst 2, 1) := by decide +kernel
theorem dX6_comesOn_92 : decode cX6_comesOn 92 = .ok (.iadd, 1) := by decide +kernel
theorem dX6_comesOn_93 : decode cX6_comesOn 93 = .ok (.ireturn, 1) := by decide +kernel
theorem dX6_comesOn_94 : decode cX6_comesOn 94 = .ok (.iload_n 3, 1) := by decide +kernel
theorem dX6_comesOn_95 : decode cX6_comesOn 95 = .ok (.iload_n 2, 1) := by decide +kernel
theorem dX6_comesOn_96 : decode cX6_comesOn 96 = .ok (.iadd, 1) := by decide +kernel
theorem dX6_comesOn_97 : decode cX6_comesOn 97 = .ok (.aload_n 0, 1) := by decide +kernel
theorem dX6_comesOn_98 : decode cX6_comesOn 98 = .ok (.getfield 7, 3) := by decide +kernel
theorem dX6_comesOn_101 : decode cX6_comesOn 101 = .ok (.iconst 3, 1) := by decide +kernel
theorem dX6_comesOn_102 : decode cX6_comesOn 102 = .ok (.iaload, 1) := by decide +kernel
theorem dX6_comesOn_103 : decode cX6_comesOn 103 = .ok (.iadd, 1) := by decide +kernel
theorem dX6_comesOn_104 : decode cX6_comesOn 104 = .ok (.ireturn, 1) := by decide +kernel
theorem dX6_strucks_0 : decode cX6_strucks 0 = .ok (.iconst 0, 1) := by decide +kernel
theorem dX6_strucks_1 : decode cX6_strucks 1 = .ok (.istore_n 1, 1) := by decide +kernel
theorem dX6_strucks_2 : decode cX6_strucks 2 = .ok (.iconst 0, 1) := by decide +kernel
theorem dX6_strucks_3 : decode cX6_strucks 3 = .ok (.istore_n 2, 1) := by decide +kernel
theorem dX6_strucks_4 : decode cX6_strucks 4 = .ok (.iload_n 2, 1) := by decide +kernel
theorem dX6_strucks_5 : decode cX6_strucks 5 = .ok (.aload_n 0, 1) := by decide +kernel
theorem dX6_strucks_6 : decode cX6_strucks 6 = .ok (.getfield 7, 3) := by decide +kernel
theorem dX6_strucks_9 : decode cX6_strucks 9 = .ok (.iconst 0, 1) := by decide +kernel
theorem dX6_strucks_10 : decode cX6_strucks 10 = .ok (.iaload, 1) := by decide +kernel
theorem dX6_strucks_11 : decode cX6_strucks 11 = .ok (.if_icmp .ge 20, 3) := by decide +kernel
theorem dX6_strucks_14 : decode cX6_strucks 14 = .ok (.iload_n 1, 1) := by decide +kernel
theorem dX6_strucks_15 : decode cX6_strucks 15 = .ok (.aload_n 0, 1) := by decide +kernel
theorem dX6_strucks_16 : decode cX6_strucks 16 = .ok (.iload_n 2, 1) := by decide +kernel
theorem dX6_strucks_17 : decode cX6_strucks 17 = .ok (.iconst 5, 1) := by decide +kernel
theorem dX6_strucks_18 : decode cX6_strucks 18 = .ok (.invokevirtual 51, 3) := by decide +kernel
theorem dX6_strucks_21 : decode cX6_strucks 21 = .ok (.iload_n 2, 1) := by decide +kernel
theorem dX6_strucks_22 : decode cX6_strucks 22 = .ok (.ishl, 1) := by decide +kernel
theorem dX6_strucks_23 : decode cX6_strucks 23 = .ok (.ior, 1) := by decide +kernel
theorem dX6_strucks_24 : decode cX6_strucks 24 = .ok (.istore_n 1, 1) := by decide +kernel
theorem dX6_strucks_25 : decode cX6_strucks 25 = .ok (.iinc 2 1, 3) := by decide +kernel
theorem dX6_strucks_28 : decode cX6_strucks 28 = .ok (.goto (-24), 3) := by decide +kernel
theorem dX6_strucks_31 : decode cX6_strucks 31 = .ok (.iload_n 1, 1) := by decide +kernel
theorem dX6_strucks_32 : decode cX6_strucks 32 = .ok (.ireturn, 1) := by decide +kernel
theorem dX6_laterThan_0 : decode cX6_laterThan 0 = .ok (.iconst 0, 1) := by decide +kernel
theorem dX6_laterThan_1 : decode cX6_laterThan 1 = .ok (.istore_n 2, 1) := by decide +kernel
theorem dX6_laterThan_2 : decode cX6_laterThan 2 = .ok (.iconst 0, 1) := by decide +kernel
theorem dX6_laterThan_3 : decode cX6_laterThan 3 = .ok (.istore_n 3, 1) := by decide +kernel
theorem dX6_laterThan_4 : decode cX6_laterThan 4 = .ok (.iload_n 3, 1) := by decide +kernel
theorem dX6_laterThan_5 : decode cX6_laterThan 5 = .ok (.aload_n 0, 1) := by decide +kernel
theorem dX6_laterThan_6 : decode cX6_laterThan 6 = .ok (.getfield 7, 3) := by decide +kernel
theorem dX6_laterThan_9 : decode cX6_laterThan 9 = .ok (.iconst 0, 1) := by decide +kernel
theorem dX6_laterThan_10 : decode cX6_laterThan 10 = .ok (.iaload, 1) := by decide +kernel
theorem dX6_laterThan_11 : decode cX6_laterThan 11 = .ok (.if_icmp .ge 35, 3) := by decide +kernel
theorem dX6_laterThan_14 : decode cX6_laterThan 14 = .ok (.iload_n 2, 1) := by decide +kernel
theorem dX6_laterThan_15 : decode cX6_laterThan 15 = .ok (.aload_n 0, 1) := by decide +kernel
theorem dX6_laterThan_16 : decode cX6_laterThan 16 = .ok (.iload_n 3, 1) := by decide +kernel
theorem dX6_laterThan_17 : decode cX6_laterThan 17 = .ok (.invokevirtual 58, 3) := by decide +kernel
theorem dX6_laterThan_20 : decode cX6_laterThan 20 = .ok (.aload_n 0, 1) := by decide +kernel
theorem dX6_laterThan_21 : decode cX6_laterThan 21 = .ok (.getfield 7, 3) := by decide +kernel
theorem dX6_laterThan_24 : decode cX6_laterThan 24 = .ok (.iconst 1, 1) := by decide +kernel
theorem dX6_laterThan_25 : decode cX6_laterThan 25 = .ok (.iaload, 1) := by decide +kernel
theorem dX6_laterThan_26 : decode cX6_laterThan 26 = .ok (.iload_n 1, 1) := by decide +kernel
theorem dX6_laterThan_27 : decode cX6_laterThan 27 = .ok (.iadd, 1) := by decide +kernel
theorem dX6_laterThan_28 : decode cX6_laterThan 28 = .ok (.if_icmp .le 9, 3) := by decide +kernel
theorem dX6_laterThan_31 : decode cX6_laterThan 31 = .ok (.iconst 1, 1) := by decide +kernel
theorem dX6_laterThan_32 : decode cX6_laterThan 32 = .ok (.iload_n 3, 1) := by decide +kernel
theorem dX6_laterThan_33 : decode cX6_laterThan 33 = .ok (.ishl, 1) := by decide +kernel
theorem dX6_laterThan_34 : decode cX6_laterThan 34 = .ok (.goto 4, 3) := by decide +kernel
theorem dX6_laterThan_37 : decode cX6_laterThan 37 = .ok (.iconst 0, 1) := by decide +kernel
theorem dX6_laterThan_38 : decode cX6_laterThan 38 = .ok (.ior, 1) := by decide +kernel
theorem dX6_laterThan_39 : decode cX6_laterThan 39 = .ok (.istore_n 2, 1) := by decide +kernel
theorem dX6_laterThan_40 : decode cX6_laterThan 40 = .ok (.iinc 3 1, 3) := by decide +kernel
theorem dX6_laterThan_43 : decode cX6_laterThan 43 = .ok (.goto (-39), 3) := by decide +kernel
theorem dX6_laterThan_46 : decode cX6_laterThan 46 = .ok (.iload_n 2, 1) := by decide +kernel
theorem dX6_laterThan_47 : decode cX6_laterThan 47 = .ok (.ireturn, 1) := by decide +kernel
theorem dX6_countIn_0 : decode cX6_countIn 0 = .ok (.iconst 1, 1) := by decide +kernel
theorem dX6_countIn_1 : decode cX6_countIn 1 = .ok (.aload_n 0, 1) := by decide +kernel
theorem dX6_countIn_2 : decode cX6_countIn 2 = .ok (.getfield 7, 3) := by decide +kernel
theorem dX6_countIn_5 : decode cX6_countIn 5 = .ok (.iconst 0, 1) := by decide +kernel
theorem dX6_countIn_6 : decode cX6_countIn 6 = .ok (.iaload, 1) := by decide +kernel
theorem dX6_countIn_7 : decode cX6_countIn 7 = .ok (.ishl, 1) := by decide +kernel
theorem dX6_countIn_8 : decode cX6_countIn 8 = .ok (.iconst 1, 1) := by decide +kernel
theorem dX6_countIn_9 : decode cX6_countIn 9 = .ok (.isub, 1) := by decide +kernel
theorem dX6_countIn_10 : decode cX6_countIn 10 = .ok (.aload_n 0, 1) := by decide +kernel
theorem dX6_countIn_11 : decode cX6_countIn 11 = .ok (.invokevirtual 61, 3) := by decide +kernel
theorem dX6_countIn_14 : decode cX6_countIn 14 = .ok (.iconst (-1), 1) := by decide +kernel
theorem dX6_countIn_15 : decode cX6_countIn 15 = .ok (.ixor, 1) := by decide +kernel
theorem dX6_countIn_16 : decode cX6_countIn 16 = .ok (.iand, 1) := by decide +kernel
theorem dX6_countIn_17 : decode cX6_countIn 17 = .ok (.aload_n 0, 1) := by decide +kernel
theorem dX6_countIn_18 : decode cX6_countIn 18 = .ok (.iload_n 1, 1) := by decide +kernel
theorem dX6_countIn_19 : decode cX6_countIn 19 = .ok (.invokevirtual 65, 3) := by decide +kernel
theorem dX6_countIn_22 : decode cX6_countIn 22 = .ok (.iconst (-1), 1) := by decide +kernel
theorem dX6_countIn_23 : decode cX6_countIn 23 = .ok (.ixor, 1) := by decide +kernel
theorem dX6_countIn_24 : decode cX6_countIn 24 = .ok (.iand, 1) := by decide +kernel
theorem dX6_countIn_25 : decode cX6_countIn 25 = .ok (.ireturn, 1) := by decide +kernel
theorem dX6_comes_0 : decode cX6_comes 0 = .ok (.iconst 5, 1) := by decide +kernel
theorem dX6_comes_1 : decode cX6_comes 1 = .ok (.bipush 6, 2) := by decide +kernel
theorem dX6_comes_3 : decode cX6_comes 3 = .ok (.aload_n 0, 1) := by decide +kernel
theorem dX6_comes_4 : decode cX6_comes 4 = .ok (.getfield 7, 3) := by decide +kernel
theorem dX6_comes_7 : decode cX6_comes 7 = .ok (.iconst 0, 1) := by decide +kernel
theorem dX6_comes_8 : decode cX6_comes 8 = .ok (.iaload, 1) := by decide +kernel
theorem dX6_comes_9 : decode cX6_comes 9 = .ok (.imul, 1) := by decide +kernel
theorem dX6_comes_10 : decode cX6_comes 10 = .ok (.iadd, 1) := by decide +kernel
theorem dX6_comes_11 : decode cX6_comes 11 = .ok (.istore 6, 2) := by decide +kernel
theorem dX6_comes_13 : decode cX6_comes 13 = .ok (.aload_n 0, 1) := by decide +kernel
theorem dX6_comes_14 : decode cX6_comes 14 = .ok (.getfield 7, 3) := by decide +kernel
theorem dX6_comes_17 : decode cX6_comes 17 = .ok (.iload 6, 2) := by decide +kernel
theorem dX6_comes_19 : decode cX6_comes 19 = .ok (.iload_n 1, 1) := by decide +kernel
theorem dX6_comes_20 : decode cX6_comes 20 = .ok (.iastore, 1) := by decide +kernel
theorem dX6_comes_21 : decode cX6_comes 21 = .ok (.aload_n 0, 1) := by decide +kernel
theorem dX6_comes_22 : decode cX6_comes 22 = .ok (.getfield 7, 3) := by decide +kernel
theorem dX6_comes_25 : decode cX6_comes 25 = .ok (.iload 6, 2) := by decide +kernel
theorem dX6_comes_27 : decode cX6_comes 27 = .ok (.iconst 1, 1) := by decide +kernel
theorem dX6_comes_28 : decode cX6_comes 28 = .ok (.iadd, 1) := by decide +kernel
theorem dX6_comes_29 : decode cX6_comes 29 = .ok (.iload_n 2, 1) := by decide +kernel
theorem dX6_comes_30 : decode cX6_comes 30 = .ok (.iastore, 1) := by decide +kernel
theorem dX6_comes_31 : decode cX6_comes 31 = .ok (.aload_n 0, 1) := by decide +kernel
theorem dX6_comes_32 : decode cX6_comes 32 = .ok (.getfield 7, 3) := by decide +kernel
theorem dX6_comes_35 : decode cX6_comes 35 = .ok (.iload 6, 2) := by decide +kernel
theorem dX6_comes_37 : decode cX6_comes 37 = .ok (.iconst 2, 1) := by decide +kernel
theorem dX6_comes_38 : decode cX6_comes 38 = .ok (.iadd, 1) := by decide +kernel
theorem dX6_comes_39 : decode cX6_comes 39 = .ok (.iload_n 3, 1) := by decide +kernel
theorem dX6_comes_40 : decode cX6_comes 40 = .ok (.iastore, 1) := by decide +kernel
theorem dX6_comes_41 : decode cX6_comes 41 = .ok (.aload_n 0, 1) := by decide +kernel
theorem dX6_comes_42 : decode cX6_comes 42 = .ok (.getfield 7, 3) := by decide +kernel
theorem dX6_comes_45 : decode cX6_comes 45 = .ok (.iload 6, 2) := by decide +kernel
theorem dX6_comes_47 : decode cX6_comes 47 = .ok (.iconst 3, 1) := by decide +kernel
theorem dX6_comes_48 : decode cX6_comes 48 = .ok (.iadd, 1) := by decide +kernel
theorem dX6_comes_49 : decode cX6_comes 49 = .ok (.iload 4, 2) := by decide +kernel
theorem dX6_comes_51 : decode cX6_comes 51 = .ok (.iastore, 1) := by decide +kernel
theorem dX6_comes_52 : decode cX6_comes 52 = .ok (.aload_n 0, 1) := by decide +kernel
theorem dX6_comes_53 : decode cX6_comes 53 = .ok (.getfield 7, 3) := by decide +kernel
theorem dX6_comes_56 : decode cX6_comes 56 = .ok (.iload 6, 2) := by decide +kernel
theorem dX6_comes_58 : decode cX6_comes 58 = .ok (.iconst 4, 1) := by decide +kernel
theorem dX6_comes_59 : decode cX6_comes 59 = .ok (.iadd, 1) := by decide +kernel
theorem dX6_comes_60 : decode cX6_comes 60 = .ok (.iload 5, 2) := by decide +kernel
theorem dX6_comes_62 : decode cX6_comes 62 = .ok (.iastore, 1) := by decide +kernel
theorem dX6_comes_63 : decode cX6_comes 63 = .ok (.aload_n 0, 1) := by decide +kernel
theorem dX6_comes_64 : decode cX6_comes 64 = .ok (.getfield 7, 3) := by decide +kernel
theorem dX6_comes_67 : decode cX6_comes 67 = .ok (.iload 6, 2) := by decide +kernel
theorem dX6_comes_69 : decode cX6_comes 69 = .ok (.iconst 5, 1) := by decide +kernel
theorem dX6_comes_70 : decode cX6_comes 70 = .ok (.iadd, 1) := by decide +kernel
theorem dX6_comes_71 : decode cX6_comes 71 = .ok (.iconst 0, 1) := by decide +kernel
theorem dX6_comes_72 : decode cX6_comes 72 = .ok (.iastore, 1) := by decide +kernel
theorem dX6_comes_73 : decode cX6_comes 73 = .ok (.aload_n 0, 1) := by decide +kernel
theorem dX6_comes_74 : decode cX6_comes 74 = .ok (.getfield 7, 3) := by decide +kernel
theorem dX6_comes_77 : decode cX6_comes 77 = .ok (.iconst 0, 1) := by decide +kernel
theorem dX6_comes_78 : decode cX6_comes 78 = .ok (.dup2, 1) := by decide +kernel
theorem dX6_comes_79 : decode cX6_comes 79 = .ok (.iaload, 1) := by decide +kernel
theorem dX6_comes_80 : decode cX6_comes 80 = .ok (.iconst 1, 1) := by decide +kernel
theorem dX6_comes_81 : decode cX6_comes 81 = .ok (.iadd, 1) := by decide +kernel
theorem dX6_comes_82 : decode cX6_comes 82 = .ok (.iastore, 1) := by decide +kernel
theorem dX6_comes_83 : decode cX6_comes 83 = .ok (.return_, 1) := by decide +kernel
theorem dX6_letter_0 : decode cX6_letter 0 = .ok (.iload_n 1, 1) := by decide +kernel
theorem dX6_letter_1 : decode cX6_letter 1 = .ok (.i2l, 1) := by decide +kernel
theorem dX6_letter_2 : decode cX6_letter 2 = .ok (.lconst 0, 1) := by decide +kernel
theorem dX6_letter_3 : decode cX6_letter 3 = .ok (.ldc2_w 68, 3) := by decide +kernel
theorem dX6_letter_6 : decode cX6_letter 6 = .ok (.invokestatic 42, 3) := by decide +kernel
theorem dX6_letter_9 : decode cX6_letter 9 = .ok (.ifCond .eq 39, 3) := by decide +kernel
theorem dX6_letter_12 : decode cX6_letter 12 = .ok (.iload_n 2, 1) := by decide +kernel
theorem dX6_letter_13 : decode cX6_letter 13 = .ok (.iload_n 3, 1) := by decide +kernel
theorem dX6_letter_14 : decode cX6_letter 14 = .ok (.invokestatic 70, 3) := by decide +kernel
theorem dX6_letter_17 : decode cX6_letter 17 = .ok (.ifCond .eq 31, 3) := by decide +kernel
theorem dX6_letter_20 : decode cX6_letter 20 = .ok (.iload 4, 2) := by decide +kernel
theorem dX6_letter_22 : decode cX6_letter 22 = .ok (.i2l, 1) := by decide +kernel
theorem dX6_letter_23 : decode cX6_letter 23 = .ok (.ldc2_w 74, 3) := by decide +kernel
theorem dX6_letter_26 : decode cX6_letter 26 = .ok (.ldc2_w 76, 3) := by decide +kernel
theorem dX6_letter_29 : decode cX6_letter 29 = .ok (.invokestatic 42, 3) := by decide +kernel
theorem dX6_letter_32 : decode cX6_letter 32 = .ok (.ifCond .eq 16, 3) := by decide +kernel
theorem dX6_letter_35 : decode cX6_letter 35 = .ok (.iload 5, 2) := by decide +kernel
theorem dX6_letter_37 : decode cX6_letter 37 = .ok (.i2l, 1) := by decide +kernel
theorem dX6_letter_38 : decode cX6_letter 38 = .ok (.lconst 0, 1) := by decide +kernel
theorem dX6_letter_39 : decode cX6_letter 39 = .ok (.ldc2_w 78, 3) := by decide +kernel
theorem dX6_letter_42 : decode cX6_letter 42 = .ok (.invokestatic 42, 3) := by decide +kernel
theorem dX6_letter_45 : decode cX6_letter 45 = .ok (.ifCond .ne 10, 3) := by decide +kernel
theorem dX6_letter_48 : decode cX6_letter 48 = .ok (.aload_n 0, 1) := by decide +kernel
theorem dX6_letter_49 : decode cX6_letter 49 = .ok (.ldc 37, 2) := by decide +kernel
theorem dX6_letter_51 : decode cX6_letter 51 = .ok (.invokevirtual 47, 3) := by decide +kernel
theorem dX6_letter_54 : decode cX6_letter 54 = .ok (.ireturn, 1) := by decide +kernel
theorem dX6_letter_55 : decode cX6_letter 55 = .ok (.aload_n 0, 1) := by decide +kernel
theorem dX6_letter_56 : decode cX6_letter 56 = .ok (.getfield 7, 3) := by decide +kernel
theorem dX6_letter_59 : decode cX6_letter 59 = .ok (.iconst 0, 1) := by decide +kernel
theorem dX6_letter_60 : decode cX6_letter 60 = .ok (.iaload, 1) := by decide +kernel
theorem dX6_letter_61 : decode cX6_letter 61 = .ok (.bipush 8, 2) := by decide +kernel
theorem dX6_letter_63 : decode cX6_letter 63 = .ok (.if_icmp .ne 10, 3) := by decide +kernel
theorem dX6_letter_66 : decode cX6_letter 66 = .ok (.aload_n 0, 1) := by decide +kernel
theorem dX6_letter_67 : decode cX6_letter 67 = .ok (.ldc 80, 2) := by decide +kernel
theorem dX6_letter_69 : decode cX6_letter 69 = .ok (.invokevirtual 47, 3) := by decide +kernel
theorem dX6_letter_72 : decode cX6_letter 72 = .ok (.ireturn, 1) := by decide +kernel
theorem dX6_letter_73 : decode cX6_letter 73 = .ok (.aload_n 0, 1) := by decide +kernel
theorem dX6_letter_74 : decode cX6_letter 74 = .ok (.iload_n 1, 1) := by decide +kernel
theorem dX6_letter_75 : decode cX6_letter 75 = .ok (.iload_n 2, 1) := by decide +kernel
theorem dX6_letter_76 : decode cX6_letter 76 = .ok (.iload_n 3, 1) := by decide +kernel
theorem dX6_letter_77 : decode cX6_letter 77 = .ok (.iload 4, 2) := by decide +kernel
theorem dX6_letter_79 : decode cX6_letter 79 = .ok (.iload 5, 2) := by decide +kernel
theorem dX6_letter_81 : decode cX6_letter 81 = .ok (.invokevirtual 81, 3) := by decide +kernel
theorem dX6_letter_84 : decode cX6_letter 84 = .ok (.aload_n 0, 1) := by decide +kernel
theorem dX6_letter_85 : decode cX6_letter 85 = .ok (.getfield 7, 3) := by decide +kernel
theorem dX6_letter_88 : decode cX6_letter 88 = .ok (.iconst 0, 1) := by decide +kernel
theorem dX6_letter_89 : decode cX6_letter 89 = .ok (.iaload, 1) := by decide +kernel
theorem dX6_letter_90 : decode cX6_letter 90 = .ok (.iconst 1, 1) := by decide +kernel
theorem dX6_letter_91 : decode cX6_letter 91 = .ok (.isub, 1) := by decide +kernel
theorem dX6_letter_92 : decode cX6_letter 92 = .ok (.ireturn, 1) := by decide +kernel
theorem dX6_of_0 : decode cX6_of 0 = .ok (.aload_n 0, 1) := by decide +kernel
theorem dX6_of_1 : decode cX6_of 1 = .ok (.iload_n 1, 1) := by decide +kernel
theorem dX6_of_2 : decode cX6_of 2 = .ok (.invokevirtual 85, 3) := by decide +kernel
theorem dX6_of_5 : decode cX6_of 5 = .ok (.ifCond .eq 15, 3) := by decide +kernel
theorem dX6_of_8 : decode cX6_of 8 = .ok (.iload_n 2, 1) := by decide +kernel
theorem dX6_of_9 : decode cX6_of 9 = .ok (.i2l, 1) := by decide +kernel
theorem dX6_of_10 : decode cX6_of 10 = .ok (.lconst 0, 1) := by decide +kernel
theorem dX6_of_11 : decode cX6_of 11 = .ok (.ldc2_w 88, 3) := by decide +kernel
theorem dX6_of_14 : decode cX6_of 14 = .ok (.invokestatic 42, 3) := by decide +kernel
theorem dX6_of_17 : decode cX6_of 17 = .ok (.ifCond .ne 10, 3) := by decide +kernel
theorem dX6_of_20 : decode cX6_of 20 = .ok (.aload_n 0, 1) := by decide +kernel
theorem dX6_of_21 : decode cX6_of 21 = .ok (.ldc 37, 2) := by decide +kernel
theorem dX6_of_23 : decode cX6_of 23 = .ok (.invokevirtual 47, 3) := by decide +kernel
theorem dX6_of_26 : decode cX6_of 26 = .ok (.ireturn, 1) := by decide +kernel
theorem dX6_of_27 : decode cX6_of 27 = .ok (.iload_n 2, 1) := by decide +kernel
theorem dX6_of_28 : decode cX6_of 28 = .ok (.tableswitch 60 6 9 #[32, 38, 44, 50], 32) := by decide +kernel
theorem dX6_of_60 : decode cX6_of 60 = .ok (.aload_n 0, 1) := by decide +kernel
theorem dX6_of_61 : decode cX6_of 61 = .ok (.iload_n 1, 1) := by decide +kernel
theorem dX6_of_62 : decode cX6_of 62 = .ok (.invokevirtual 90, 3) := by decide +kernel
theorem dX6_of_65 : decode cX6_of 65 = .ok (.ireturn, 1) := by decide +kernel
theorem dX6_of_66 : decode cX6_of 66 = .ok (.aload_n 0, 1) := by decide +kernel
theorem dX6_of_67 : decode cX6_of 67 = .ok (.iload_n 1, 1) := by decide +kernel
theorem dX6_of_68 : decode cX6_of 68 = .ok (.invokevirtual 93, 3) := by decide +kernel
theorem dX6_of_71 : decode cX6_of 71 = .ok (.ireturn, 1) := by decide +kernel
theorem dX6_of_72 : decode cX6_of 72 = .ok (.aload_n 0, 1) := by decide +kernel
theorem dX6_of_73 : decode cX6_of 73 = .ok (.iload_n 1, 1) := by decide +kernel
theorem dX6_of_74 : decode cX6_of 74 = .ok (.invokevirtual 58, 3) := by decide +kernel
theorem dX6_of_77 : decode cX6_of 77 = .ok (.ireturn, 1) := by decide +kernel
theorem dX6_of_78 : decode cX6_of 78 = .ok (.aload_n 0, 1) := by decide +kernel
theorem dX6_of_79 : decode cX6_of 79 = .ok (.iconst 0, 1) := by decide +kernel
theorem dX6_of_80 : decode cX6_of 80 = .ok (.invokevirtual 96, 3) := by decide +kernel
theorem dX6_of_83 : decode cX6_of 83 = .ok (.iload_n 1, 1) := by decide +kernel
theorem dX6_of_84 : decode cX6_of 84 = .ok (.ishr, 1) := by decide +kernel
theorem dX6_of_85 : decode cX6_of 85 = .ok (.iconst 1, 1) := by decide +kernel
theorem dX6_of_86 : decode cX6_of 86 = .ok (.iand, 1) := by decide +kernel
theorem dX6_of_87 : decode cX6_of 87 = .ok (.ireturn, 1) := by decide +kernel
theorem dX6_of_88 : decode cX6_of 88 = .ok (.aload_n 0, 1) := by decide +kernel
theorem dX6_of_89 : decode cX6_of 89 = .ok (.iload_n 1, 1) := by decide +kernel
theorem dX6_of_90 : decode cX6_of 90 = .ok (.iload_n 2, 1) := by decide +kernel
theorem dX6_of_91 : decode cX6_of 91 = .ok (.invokevirtual 51, 3) := by decide +kernel
theorem dX6_of_94 : decode cX6_of 94 = .ok (.ireturn, 1) := by decide +kernel
theorem dX6_isFit_0 : decode cX6_isFit 0 = .ok (.iload_n 2, 1) := by decide +kernel
theorem dX6_isFit_1 : decode cX6_isFit 1 = .ok (.tableswitch 89 0 4 #[35, 45, 56, 67, 79], 35) := by decide +kernel
theorem dX6_isFit_36 : decode cX6_isFit 36 = .ok (.iload_n 3, 1) := by decide +kernel
theorem dX6_isFit_37 : decode cX6_isFit 37 = .ok (.i2l, 1) := by decide +kernel
theorem dX6_isFit_38 : decode cX6_isFit 38 = .ok (.lconst 0, 1) := by decide +kernel
theorem dX6_isFit_39 : decode cX6_isFit 39 = .ok (.ldc2_w 68, 3) := by decide +kernel
theorem dX6_isFit_42 : decode cX6_isFit 42 = .ok (.invokestatic 42, 3) := by decide +kernel
theorem dX6_isFit_45 : decode cX6_isFit 45 = .ok (.ireturn, 1) := by decide +kernel
theorem dX6_isFit_46 : decode cX6_isFit 46 = .ok (.iload_n 3, 1) := by decide +kernel
theorem dX6_isFit_47 : decode cX6_isFit 47 = .ok (.aload_n 0, 1) := by decide +kernel
theorem dX6_isFit_48 : decode cX6_isFit 48 = .ok (.iload_n 1, 1) := by decide +kernel
theorem dX6_isFit_49 : decode cX6_isFit 49 = .ok (.iconst 2, 1) := by decide +kernel
theorem dX6_isFit_50 : decode cX6_isFit 50 = .ok (.invokevirtual 51, 3) := by decide +kernel
theorem dX6_isFit_53 : decode cX6_isFit 53 = .ok (.invokestatic 70, 3) := by decide +kernel
theorem dX6_isFit_56 : decode cX6_isFit 56 = .ok (.ireturn, 1) := by decide +kernel
theorem dX6_isFit_57 : decode cX6_isFit 57 = .ok (.iload_n 3, 1) := by decide +kernel
theorem dX6_isFit_58 : decode cX6_isFit 58 = .ok (.aload_n 0, 1) := by decide +kernel
theorem dX6_isFit_59 : decode cX6_isFit 59 = .ok (.iload_n 1, 1) := by decide +kernel
theorem dX6_isFit_60 : decode cX6_isFit 60 = .ok (.iconst 1, 1) := by decide +kernel
theorem dX6_isFit_61 : decode cX6_isFit 61 = .ok (.invokevirtual 51, 3) := by decide +kernel
theorem dX6_isFit_64 : decode cX6_isFit 64 = .ok (.invokestatic 70, 3) := by decide +kernel
theorem dX6_isFit_67 : decode cX6_isFit 67 = .ok (.ireturn, 1) := by decide +kernel
theorem dX6_isFit_68 : decode cX6_isFit 68 = .ok (.iload_n 3, 1) := by decide +kernel
theorem dX6_isFit_69 : decode cX6_isFit 69 = .ok (.i2l, 1) := by decide +kernel
theorem dX6_isFit_70 : decode cX6_isFit 70 = .ok (.ldc2_w 74, 3) := by decide +kernel
theorem dX6_isFit_73 : decode cX6_isFit 73 = .ok (.ldc2_w 76, 3) := by decide +kernel
theorem dX6_isFit_76 : decode cX6_isFit 76 = .ok (.invokestatic 42, 3) := by decide +kernel
theorem dX6_isFit_79 : decode cX6_isFit 79 = .ok (.ireturn, 1) := by decide +kernel
theorem dX6_isFit_80 : decode cX6_isFit 80 = .ok (.iload_n 3, 1) := by decide +kernel
theorem dX6_isFit_81 : decode cX6_isFit 81 = .ok (.i2l, 1) := by decide +kernel
theorem dX6_isFit_82 : decode cX6_isFit 82 = .ok (.lconst 0, 1) := by decide +kernel
theorem dX6_isFit_83 : decode cX6_isFit 83 = .ok (.ldc2_w 78, 3) := by decide +kernel
theorem dX6_isFit_86 : decode cX6_isFit 86 = .ok (.invokestatic 42, 3) := by decide +kernel
theorem dX6_isFit_89 : decode cX6_isFit 89 = .ok (.ireturn, 1) := by decide +kernel
theorem dX6_isFit_90 : decode cX6_isFit 90 = .ok (.iload_n 2, 1) := by decide +kernel
theorem dX6_isFit_91 : decode cX6_isFit 91 = .ok (.iconst 5, 1) := by decide +kernel
theorem dX6_isFit_92 : decode cX6_isFit 92 = .ok (.if_icmp .ne 17, 3) := by decide +kernel
theorem dX6_isFit_95 : decode cX6_isFit 95 = .ok (.iload_n 3, 1) := by decide +kernel
theorem dX6_isFit_96 : decode cX6_isFit 96 = .ok (.i2l, 1) := by decide +kernel
theorem dX6_isFit_97 : decode cX6_isFit 97 = .ok (.lconst 0, 1) := by decide +kernel
theorem dX6_isFit_98 : decode cX6_isFit 98 = .ok (.lconst 1, 1) := by decide +kernel
theorem dX6_isFit_99 : decode cX6_isFit 99 = .ok (.invokestatic 42, 3) := by decide +kernel
theorem dX6_isFit_102 : decode cX6_isFit 102 = .ok (.ifCond .eq 7, 3) := by decide +kernel
theorem dX6_isFit_105 : decode cX6_isFit 105 = .ok (.iconst 1, 1) := by decide +kernel
theorem dX6_isFit_106 : decode cX6_isFit 106 = .ok (.goto 4, 3) := by decide +kernel
theorem dX6_isFit_109 : decode cX6_isFit 109 = .ok (.iconst 0, 1) := by decide +kernel
theorem dX6_isFit_110 : decode cX6_isFit 110 = .ok (.ireturn, 1) := by decide +kernel
theorem dX6_change_0 : decode cX6_change 0 = .ok (.aload_n 0, 1) := by decide +kernel
theorem dX6_change_1 : decode cX6_change 1 = .ok (.iload_n 1, 1) := by decide +kernel
theorem dX6_change_2 : decode cX6_change 2 = .ok (.invokevirtual 85, 3) := by decide +kernel
theorem dX6_change_5 : decode cX6_change 5 = .ok (.ifCond .eq 29, 3) := by decide +kernel
theorem dX6_change_8 : decode cX6_change 8 = .ok (.aload_n 0, 1) := by decide +kernel
theorem dX6_change_9 : decode cX6_change 9 = .ok (.iload_n 1, 1) := by decide +kernel
theorem dX6_change_10 : decode cX6_change 10 = .ok (.iload_n 2, 1) := by decide +kernel
theorem dX6_change_11 : decode cX6_change 11 = .ok (.iload_n 3, 1) := by decide +kernel
theorem dX6_change_12 : decode cX6_change 12 = .ok (.invokevirtual 99, 3) := by decide +kernel
theorem dX6_change_15 : decode cX6_change 15 = .ok (.ifCond .eq 19, 3) := by decide +kernel
theorem dX6_change_18 : decode cX6_change 18 = .ok (.aload_n 0, 1) := by decide +kernel
theorem dX6_change_19 : decode cX6_change 19 = .ok (.iconst 5, 1) := by decide +kernel
theorem dX6_change_20 : decode cX6_change 20 = .ok (.bipush 6, 2) := by decide +kernel
theorem dX6_change_22 : decode cX6_change 22 = .ok (.iload_n 1, 1) := by decide +kernel
theorem dX6_change_23 : decode cX6_change 23 = .ok (.imul, 1) := by decide +kernel
theorem dX6_change_24 : decode cX6_change 24 = .ok (.iadd, 1) := by decide +kernel
theorem dX6_change_25 : decode cX6_change 25 = .ok (.iload_n 2, 1) := by decide +kernel
theorem dX6_change_26 : decode cX6_change 26 = .ok (.iadd, 1) := by decide +kernel
theorem dX6_change_27 : decode cX6_change 27 = .ok (.iload_n 3, 1) := by decide +kernel
theorem dX6_change_28 : decode cX6_change 28 = .ok (.invokevirtual 103, 3) := by decide +kernel
theorem dX6_change_31 : decode cX6_change 31 = .ok (.goto 9, 3) := by decide +kernel
theorem dX6_change_34 : decode cX6_change 34 = .ok (.aload_n 0, 1) := by decide +kernel
theorem dX6_change_35 : decode cX6_change 35 = .ok (.ldc 37, 2) := by decide +kernel
theorem dX6_change_37 : decode cX6_change 37 = .ok (.invokevirtual 47, 3) := by decide +kernel
theorem dX6_change_40 : decode cX6_change 40 = .ok (.ireturn, 1) := by decide +kernel
theorem dX6_law_0 : decode cX6_law 0 = .ok (.iload_n 1, 1) := by decide +kernel
theorem dX6_law_1 : decode cX6_law 1 = .ok (.i2l, 1) := by decide +kernel
theorem dX6_law_2 : decode cX6_law 2 = .ok (.lconst 0, 1) := by decide +kernel
theorem dX6_law_3 : decode cX6_law 3 = .ok (.lconst 1, 1) := by decide +kernel
theorem dX6_law_4 : decode cX6_law 4 = .ok (.invokestatic 42, 3) := by decide +kernel
theorem dX6_law_7 : decode cX6_law 7 = .ok (.ifCond .eq 26, 3) := by decide +kernel
theorem dX6_law_10 : decode cX6_law 10 = .ok (.iload_n 2, 1) := by decide +kernel
theorem dX6_law_11 : decode cX6_law 11 = .ok (.i2l, 1) := by decide +kernel
theorem dX6_law_12 : decode cX6_law 12 = .ok (.lconst 0, 1) := by decide +kernel
theorem dX6_law_13 : decode cX6_law 13 = .ok (.ldc2_w 88, 3) := by decide +kernel
theorem dX6_law_16 : decode cX6_law 16 = .ok (.invokestatic 42, 3) := by decide +kernel
theorem dX6_law_19 : decode cX6_law 19 = .ok (.ifCond .eq 14, 3) := by decide +kernel
theorem dX6_law_22 : decode cX6_law 22 = .ok (.aload_n 0, 1) := by decide +kernel
theorem dX6_law_23 : decode cX6_law 23 = .ok (.iconst 2, 1) := by decide +kernel
theorem dX6_law_24 : decode cX6_law 24 = .ok (.iload_n 1, 1) := by decide +kernel
theorem dX6_law_25 : decode cX6_law 25 = .ok (.iadd, 1) := by decide +kernel
theorem dX6_law_26 : decode cX6_law 26 = .ok (.iload_n 2, 1) := by decide +kernel
theorem dX6_law_27 : decode cX6_law 27 = .ok (.invokevirtual 103, 3) := by decide +kernel
theorem dX6_law_30 : decode cX6_law 30 = .ok (.goto 9, 3) := by decide +kernel
theorem dX6_law_33 : decode cX6_law 33 = .ok (.aload_n 0, 1) := by decide +kernel
theorem dX6_law_34 : decode cX6_law 34 = .ok (.ldc 37, 2) := by decide +kernel
theorem dX6_law_36 : decode cX6_law 36 = .ok (.invokevirtual 47, 3) := by decide +kernel
theorem dX6_law_39 : decode cX6_law 39 = .ok (.ireturn, 1) := by decide +kernel
theorem dX6_go_0 : decode cX6_go 0 = .ok (.iload_n 1, 1) := by decide +kernel
theorem dX6_go_1 : decode cX6_go 1 = .ok (.i2l, 1) := by decide +kernel
theorem dX6_go_2 : decode cX6_go 2 = .ok (.lconst 1, 1) := by decide +kernel
theorem dX6_go_3 : decode cX6_go 3 = .ok (.ldc2_w 106, 3) := by decide +kernel
theorem dX6_go_6 : decode cX6_go 6 = .ok (.invokestatic 42, 3) := by decide +kernel
theorem dX6_go_9 : decode cX6_go 9 = .ok (.ifCond .ne 10, 3) := by decide +kernel
theorem dX6_go_12 : decode cX6_go 12 = .ok (.aload_n 0, 1) := by decide +kernel
theorem dX6_go_13 : decode cX6_go 13 = .ok (.ldc 37, 2) := by decide +kernel
theorem dX6_go_15 : decode cX6_go 15 = .ok (.invokevirtual 47, 3) := by decide +kernel
theorem dX6_go_18 : decode cX6_go 18 = .ok (.ireturn, 1) := by decide +kernel
theorem dX6_go_19 : decode cX6_go 19 = .ok (.aload_n 0, 1) := by decide +kernel
theorem dX6_go_20 : decode cX6_go 20 = .ok (.getfield 7, 3) := by decide +kernel
theorem dX6_go_23 : decode cX6_go 23 = .ok (.iconst 1, 1) := by decide +kernel
theorem dX6_go_24 : decode cX6_go 24 = .ok (.iaload, 1) := by decide +kernel
theorem dX6_go_25 : decode cX6_go 25 = .ok (.iload_n 1, 1) := by decide +kernel
theorem dX6_go_26 : decode cX6_go 26 = .ok (.iadd, 1) := by decide +kernel
theorem dX6_go_27 : decode cX6_go 27 = .ok (.ldc 108, 2) := by decide +kernel
theorem dX6_go_29 : decode cX6_go 29 = .ok (.if_icmp .le 10, 3) := by decide +kernel
theorem dX6_go_32 : decode cX6_go 32 = .ok (.aload_n 0, 1) := by decide +kernel
theorem dX6_go_33 : decode cX6_go 33 = .ok (.ldc 109, 2) := by decide +kernel
theorem dX6_go_35 : decode cX6_go 35 = .ok (.invokevirtual 47, 3) := by decide +kernel
theorem dX6_go_38 : decode cX6_go 38 = .ok (.ireturn, 1) := by decide +kernel
theorem dX6_go_39 : decode cX6_go 39 = .ok (.aload_n 0, 1) := by decide +kernel
theorem dX6_go_40 : decode cX6_go 40 = .ok (.getfield 7, 3) := by decide +kernel
theorem dX6_go_43 : decode cX6_go 43 = .ok (.iconst 1, 1) := by decide +kernel
theorem dX6_go_44 : decode cX6_go 44 = .ok (.dup2, 1) := by decide +kernel
theorem dX6_go_45 : decode cX6_go 45 = .ok (.iaload, 1) := by decide +kernel
theorem dX6_go_46 : decode cX6_go 46 = .ok (.iload_n 1, 1) := by decide +kernel
theorem dX6_go_47 : decode cX6_go 47 = .ok (.iadd, 1) := by decide +kernel
theorem dX6_go_48 : decode cX6_go 48 = .ok (.iastore, 1) := by decide +kernel
theorem dX6_go_49 : decode cX6_go 49 = .ok (.aload_n 0, 1) := by decide +kernel
theorem dX6_go_50 : decode cX6_go 50 = .ok (.iconst 0, 1) := by decide +kernel
theorem dX6_go_51 : decode cX6_go 51 = .ok (.invokevirtual 96, 3) := by decide +kernel
theorem dX6_go_54 : decode cX6_go 54 = .ok (.ireturn, 1) := by decide +kernel
theorem dX6_now_0 : decode cX6_now 0 = .ok (.iload_n 1, 1) := by decide +kernel
theorem dX6_now_1 : decode cX6_now 1 = .ok (.tableswitch 74 0 5 #[39, 46, 52, 58, 63, 63], 39) := by decide +kernel
theorem dX6_now_40 : decode cX6_now 40 = .ok (.aload_n 0, 1) := by decide +kernel
theorem dX6_now_41 : decode cX6_now 41 = .ok (.getfield 7, 3) := by decide +kernel
theorem dX6_now_44 : decode cX6_now 44 = .ok (.iconst 1, 1) := by decide +kernel
theorem dX6_now_45 : decode cX6_now 45 = .ok (.iaload, 1) := by decide +kernel
theorem dX6_now_46 : decode cX6_now 46 = .ok (.ireturn, 1) := by decide +kernel
theorem dX6_now_47 : decode cX6_now 47 = .ok (.aload_n 0, 1) := by decide +kernel
theorem dX6_now_48 : decode cX6_now 48 = .ok (.iconst 0, 1) := by decide +kernel
theorem dX6_now_49 : decode cX6_now 49 = .ok (.invokevirtual 96, 3) := by decide +kernel
theorem dX6_now_52 : decode cX6_now 52 = .ok (.ireturn, 1) := by decide +kernel
theorem dX6_now_53 : decode cX6_now 53 = .ok (.aload_n 0, 1) := by decide +kernel
theorem dX6_now_54 : decode cX6_now 54 = .ok (.iconst 0, 1) := by decide +kernel
theorem dX6_now_55 : decode cX6_now 55 = .ok (.invokevirtual 65, 3) := by decide +kernel
theorem dX6_now_58 : decode cX6_now 58 = .ok (.ireturn, 1) := by decide +kernel
theorem dX6_now_59 : decode cX6_now 59 = .ok (.aload_n 0, 1) := by decide +kernel
theorem dX6_now_60 : decode cX6_now 60 = .ok (.invokevirtual 61, 3) := by decide +kernel
theorem dX6_now_63 : decode cX6_now 63 = .ok (.ireturn, 1) := by decide +kernel
theorem dX6_now_64 : decode cX6_now 64 = .ok (.aload_n 0, 1) := by decide +kernel
theorem dX6_now_65 : decode cX6_now 65 = .ok (.getfield 7, 3) := by decide +kernel
theorem dX6_now_68 : decode cX6_now 68 = .ok (.iconst 2, 1) := by decide +kernel
theorem dX6_now_69 : decode cX6_now 69 = .ok (.iload_n 1, 1) := by decide +kernel
theorem dX6_now_70 : decode cX6_now 70 = .ok (.iadd, 1) := by decide +kernel
theorem dX6_now_71 : decode cX6_now 71 = .ok (.iconst 4, 1) := by decide +kernel
theorem dX6_now_72 : decode cX6_now 72 = .ok (.isub, 1) := by decide +kernel
theorem dX6_now_73 : decode cX6_now 73 = .ok (.iaload, 1) := by decide +kernel
theorem dX6_now_74 : decode cX6_now 74 = .ok (.ireturn, 1) := by decide +kernel
theorem dX6_now_75 : decode cX6_now 75 = .ok (.aload_n 0, 1) := by decide +kernel
theorem dX6_now_76 : decode cX6_now 76 = .ok (.ldc 37, 2) := by decide +kernel
theorem dX6_now_78 : decode cX6_now 78 = .ok (.invokevirtual 47, 3) := by decide +kernel
theorem dX6_now_81 : decode cX6_now 81 = .ok (.ireturn, 1) := by decide +kernel
theorem dX6_binds_0 : decode cX6_binds 0 = .ok (.aload_n 0, 1) := by decide +kernel
theorem dX6_binds_1 : decode cX6_binds 1 = .ok (.getfield 34, 3) := by decide +kernel
theorem dX6_binds_4 : decode cX6_binds 4 = .ok (.bipush 8, 2) := by decide +kernel
theorem dX6_binds_6 : decode cX6_binds 6 = .ok (.iload_n 1, 1) := by decide +kernel
theorem dX6_binds_7 : decode cX6_binds 7 = .ok (.imul, 1) := by decide +kernel
theorem dX6_binds_8 : decode cX6_binds 8 = .ok (.iload_n 2, 1) := by decide +kernel
theorem dX6_binds_9 : decode cX6_binds 9 = .ok (.iadd, 1) := by decide +kernel
theorem dX6_binds_10 : decode cX6_binds 10 = .ok (.iload_n 3, 1) := by decide +kernel
theorem dX6_binds_11 : decode cX6_binds 11 = .ok (.aload_n 0, 1) := by decide +kernel
theorem dX6_binds_12 : decode cX6_binds 12 = .ok (.getfield 34, 3) := by decide +kernel
theorem dX6_binds_15 : decode cX6_binds 15 = .ok (.bipush 8, 2) := by decide +kernel
theorem dX6_binds_17 : decode cX6_binds 17 = .ok (.iload_n 1, 1) := by decide +kernel
theorem dX6_binds_18 : decode cX6_binds 18 = .ok (.imul, 1) := by decide +kernel
theorem dX6_binds_19 : decode cX6_binds 19 = .ok (.iload_n 2, 1) := by decide +kernel
theorem dX6_binds_20 : decode cX6_binds 20 = .ok (.iadd, 1) := by decide +kernel
theorem dX6_binds_21 : decode cX6_binds 21 = .ok (.iaload, 1) := by decide +kernel
theorem dX6_binds_22 : decode cX6_binds 22 = .ok (.if_icmp .ge 7, 3) := by decide +kernel
theorem dX6_binds_25 : decode cX6_binds 25 = .ok (.iload_n 3, 1) := by decide +kernel
theorem dX6_binds_26 : decode cX6_binds 26 = .ok (.goto 14, 3) := by decide +kernel
theorem dX6_binds_29 : decode cX6_binds 29 = .ok (.aload_n 0, 1) := by decide +kernel
theorem dX6_binds_30 : decode cX6_binds 30 = .ok (.getfield 34, 3) := by decide +kernel
theorem dX6_binds_33 : decode cX6_binds 33 = .ok (.bipush 8, 2) := by decide +kernel
theorem dX6_binds_35 : decode cX6_binds 35 = .ok (.iload_n 1, 1) := by decide +kernel
theorem dX6_binds_36 : decode cX6_binds 36 = .ok (.imul, 1) := by decide +kernel
theorem dX6_binds_37 : decode cX6_binds 37 = .ok (.iload_n 2, 1) := by decide +kernel
theorem dX6_binds_38 : decode cX6_binds 38 = .ok (.iadd, 1) := by decide +kernel
theorem dX6_binds_39 : decode cX6_binds 39 = .ok (.iaload, 1) := by decide +kernel
theorem dX6_binds_40 : decode cX6_binds 40 = .ok (.iastore, 1) := by decide +kernel
theorem dX6_binds_41 : decode cX6_binds 41 = .ok (.return_, 1) := by decide +kernel
theorem dX6_lays_0 : decode cX6_lays 0 = .ok (.iconst 0, 1) := by decide +kernel
theorem dX6_lays_1 : decode cX6_lays 1 = .ok (.istore_n 2, 1) := by decide +kernel
theorem dX6_lays_2 : decode cX6_lays 2 = .ok (.iload_n 2, 1) := by decide +kernel
theorem dX6_lays_3 : decode cX6_lays 3 = .ok (.bipush 64, 2) := by decide +kernel
theorem dX6_lays_5 : decode cX6_lays 5 = .ok (.if_icmp .ge 33, 3) := by decide +kernel
theorem dX6_lays_8 : decode cX6_lays 8 = .ok (.aload_n 0, 1) := by decide +kernel
theorem dX6_lays_9 : decode cX6_lays 9 = .ok (.getfield 34, 3) := by decide +kernel
theorem dX6_lays_12 : decode cX6_lays 12 = .ok (.iload_n 2, 1) := by decide +kernel
theorem dX6_lays_13 : decode cX6_lays 13 = .ok (.iload_n 2, 1) := by decide +kernel
theorem dX6_lays_14 : decode cX6_lays 14 = .ok (.bipush 8, 2) := by decide +kernel
theorem dX6_lays_16 : decode cX6_lays 16 = .ok (.idiv, 1) := by decide +kernel
theorem dX6_lays_17 : decode cX6_lays 17 = .ok (.iload_n 2, 1) := by decide +kernel
theorem dX6_lays_18 : decode cX6_lays 18 = .ok (.bipush 8, 2) := by decide +kernel
theorem dX6_lays_20 : decode cX6_lays 20 = .ok (.irem, 1) := by decide +kernel
theorem dX6_lays_21 : decode cX6_lays 21 = .ok (.if_icmp .ne 7, 3) := by decide +kernel
theorem dX6_lays_24 : decode cX6_lays 24 = .ok (.iconst 0, 1) := by decide +kernel
theorem dX6_lays_25 : decode cX6_lays 25 = .ok (.goto 6, 3) := by decide +kernel
theorem dX6_lays_28 : decode cX6_lays 28 = .ok (.sipush 999, 3) := by decide +kernel
theorem dX6_lays_31 : decode cX6_lays 31 = .ok (.iastore, 1) := by decide +kernel
theorem dX6_lays_32 : decode cX6_lays 32 = .ok (.iinc 2 1, 3) := by decide +kernel
theorem dX6_lays_35 : decode cX6_lays 35 = .ok (.goto (-33), 3) := by decide +kernel
theorem dX6_lays_38 : decode cX6_lays 38 = .ok (.iconst 0, 1) := by decide +kernel
theorem dX6_lays_39 : decode cX6_lays 39 = .ok (.istore_n 2, 1) := by decide +kernel
theorem dX6_lays_40 : decode cX6_lays 40 = .ok (.iload_n 2, 1) := by decide +kernel
theorem dX6_lays_41 : decode cX6_lays 41 = .ok (.aload_n 0, 1) := by decide +kernel
theorem dX6_lays_42 : decode cX6_lays 42 = .ok (.getfield 7, 3) := by decide +kernel
theorem dX6_lays_45 : decode cX6_lays 45 = .ok (.iconst 0, 1) := by decide +kernel
theorem dX6_lays_46 : decode cX6_lays 46 = .ok (.iaload, 1) := by decide +kernel
theorem dX6_lays_47 : decode cX6_lays 47 = .ok (.if_icmp .ge 61, 3) := by decide +kernel
theorem dX6_lays_50 : decode cX6_lays 50 = .ok (.iload_n 1, 1) := by decide +kernel
theorem dX6_lays_51 : decode cX6_lays 51 = .ok (.iload_n 2, 1) := by decide +kernel
theorem dX6_lays_52 : decode cX6_lays 52 = .ok (.ishr, 1) := by decide +kernel
theorem dX6_lays_53 : decode cX6_lays 53 = .ok (.iconst 1, 1) := by decide +kernel
theorem dX6_lays_54 : decode cX6_lays 54 = .ok (.iand, 1) := by decide +kernel
theorem dX6_lays_55 : decode cX6_lays 55 = .ok (.iconst 1, 1) := by decide +kernel
theorem dX6_lays_56 : decode cX6_lays 56 = .ok (.if_icmp .ne 46, 3) := by decide +kernel
theorem dX6_lays_59 : decode cX6_lays 59 = .ok (.aload_n 0, 1) := by decide +kernel
theorem dX6_lays_60 : decode cX6_lays 60 = .ok (.aload_n 0, 1) := by decide +kernel
theorem dX6_lays_61 : decode cX6_lays 61 = .ok (.iload_n 2, 1) := by decide +kernel
theorem dX6_lays_62 : decode cX6_lays 62 = .ok (.iconst 1, 1) := by decide +kernel
theorem dX6_lays_63 : decode cX6_lays 63 = .ok (.invokevirtual 51, 3) := by decide +kernel
theorem dX6_lays_66 : decode cX6_lays 66 = .ok (.aload_n 0, 1) := by decide +kernel
theorem dX6_lays_67 : decode cX6_lays 67 = .ok (.iload_n 2, 1) := by decide +kernel
theorem dX6_lays_68 : decode cX6_lays 68 = .ok (.iconst 2, 1) := by decide +kernel
theorem dX6_lays_69 : decode cX6_lays 69 = .ok (.invokevirtual 51, 3) := by decide +kernel
theorem dX6_lays_72 : decode cX6_lays 72 = .ok (.aload_n 0, 1) := by decide +kernel
theorem dX6_lays_73 : decode cX6_lays 73 = .ok (.iload_n 2, 1) := by decide +kernel
theorem dX6_lays_74 : decode cX6_lays 74 = .ok (.invokevirtual 93, 3) := by decide +kernel
theorem dX6_lays_77 : decode cX6_lays 77 = .ok (.invokevirtual 110, 3) := by decide +kernel
theorem dX6_lays_80 : decode cX6_lays 80 = .ok (.aload_n 0, 1) := by decide +kernel
theorem dX6_lays_81 : decode cX6_lays 81 = .ok (.aload_n 0, 1) := by decide +kernel
theorem dX6_lays_82 : decode cX6_lays 82 = .ok (.iload_n 2, 1) := by decide +kernel
theorem dX6_lays_83 : decode cX6_lays 83 = .ok (.iconst 2, 1) := by decide +kernel
theorem dX6_lays_84 : decode cX6_lays 84 = .ok (.invokevirtual 51, 3) := by decide +kernel
theorem dX6_lays_87 : decode cX6_lays 87 = .ok (.aload_n 0, 1) := by decide +kernel
theorem dX6_lays_88 : decode cX6_lays 88 = .ok (.iload_n 2, 1) := by decide +kernel
theorem dX6_lays_89 : decode cX6_lays 89 = .ok (.iconst 1, 1) := by decide +kernel
theorem dX6_lays_90 : decode cX6_lays 90 = .ok (.invokevirtual 51, 3) := by decide +kernel
theorem dX6_lays_93 : decode cX6_lays 93 = .ok (.aload_n 0, 1) := by decide +kernel
theorem dX6_lays_94 : decode cX6_lays 94 = .ok (.iload_n 2, 1) := by decide +kernel
theorem dX6_lays_95 : decode cX6_lays 95 = .ok (.invokevirtual 90, 3) := by decide +kernel
theorem dX6_lays_98 : decode cX6_lays 98 = .ok (.ineg, 1) := by decide +kernel
theorem dX6_lays_99 : decode cX6_lays 99 = .ok (.invokevirtual 110, 3) := by decide +kernel
theorem dX6_lays_102 : decode cX6_lays 102 = .ok (.iinc 2 1, 3) := by decide +kernel
theorem dX6_lays_105 : decode cX6_lays 105 = .ok (.goto (-65), 3) := by decide +kernel
theorem dX6_lays_108 : decode cX6_lays 108 = .ok (.return_, 1) := by decide +kernel
theorem dX6_follows_0 : decode cX6_follows 0 = .ok (.iconst 0, 1) := by decide +kernel
theorem dX6_follows_1 : decode cX6_follows 1 = .ok (.istore_n 1, 1) := by decide +kernel
theorem dX6_follows_2 : decode cX6_follows 2 = .ok (.iload_n 1, 1) := by decide +kernel
theorem dX6_follows_3 : decode cX6_follows 3 = .ok (.bipush 8, 2) := by decide +kernel
theorem dX6_follows_5 : decode cX6_follows 5 = .ok (.if_icmp .ge 79, 3) := by decide +kernel
theorem dX6_follows_8 : decode cX6_follows 8 = .ok (.iconst 0, 1) := by decide +kernel
theorem dX6_follows_9 : decode cX6_follows 9 = .ok (.istore_n 2, 1) := by decide +kernel
theorem dX6_follows_10 : decode cX6_follows 10 = .ok (.iload_n 2, 1) := by decide +kernel
theorem dX6_follows_11 : decode cX6_follows 11 = .ok (.bipush 64, 2) := by decide +kernel
theorem dX6_follows_13 : decode cX6_follows 13 = .ok (.if_icmp .ge 65, 3) := by decide +kernel
theorem dX6_follows_16 : decode cX6_follows 16 = .ok (.aload_n 0, 1) := by decide +kernel
theorem dX6_follows_17 : decode cX6_follows 17 = .ok (.getfield 34, 3) := by decide +kernel
theorem dX6_follows_20 : decode cX6_follows 20 = .ok (.bipush 8, 2) := by decide +kernel
theorem dX6_follows_22 : decode cX6_follows 22 = .ok (.iload_n 2, 1) := by decide +kernel
theorem dX6_follows_23 : decode cX6_follows 23 = .ok (.bipush 8, 2) := by decide +kernel
theorem dX6_follows_25 : decode cX6_follows 25 = .ok (.idiv, 1) := by decide +kernel
theorem dX6_follows_26 : decode cX6_follows 26 = .ok (.imul, 1) := by decide +kernel
theorem dX6_follows_27 : decode cX6_follows 27 = .ok (.iload_n 1, 1) := by decide +kernel
theorem dX6_follows_28 : decode cX6_follows 28 = .ok (.iadd, 1) := by decide +kernel
theorem dX6_follows_29 : decode cX6_follows 29 = .ok (.iaload, 1) := by decide +kernel
theorem dX6_follows_30 : decode cX6_follows 30 = .ok (.aload_n 0, 1) := by decide +kernel
theorem dX6_follows_31 : decode cX6_follows 31 = .ok (.getfield 34, 3) := by decide +kernel
theorem dX6_follows_34 : decode cX6_follows 34 = .ok (.bipush 8, 2) := by decide +kernel
theorem dX6_follows_36 : decode cX6_follows 36 = .ok (.iload_n 1, 1) := by decide +kernel
theorem dX6_follows_37 : decode cX6_follows 37 = .ok (.imul, 1) := by decide +kernel
theorem dX6_follows_38 : decode cX6_follows 38 = .ok (.iload_n 2, 1) := by decide +kernel
theorem dX6_follows_39 : decode cX6_follows 39 = .ok (.bipush 8, 2) := by decide +kernel
theorem dX6_follows_41 : decode cX6_follows 41 = .ok (.irem, 1) := by decide +kernel
theorem dX6_follows_42 : decode cX6_follows 42 = .ok (.iadd, 1) := by decide +kernel
theorem dX6_follows_43 : decode cX6_follows 43 = .ok (.iaload, 1) := by decide +kernel
theorem dX6_follows_44 : decode cX6_follows 44 = .ok (.iadd, 1) := by decide +kernel
theorem dX6_follows_45 : decode cX6_follows 45 = .ok (.istore_n 3, 1) := by decide +kernel
theorem dX6_follows_46 : decode cX6_follows 46 = .ok (.aload_n 0, 1) := by decide +kernel
theorem dX6_follows_47 : decode cX6_follows 47 = .ok (.getfield 34, 3) := by decide +kernel
theorem dX6_follows_50 : decode cX6_follows 50 = .ok (.iload_n 2, 1) := by decide +kernel
theorem dX6_follows_51 : decode cX6_follows 51 = .ok (.iload_n 3, 1) := by decide +kernel
theorem dX6_follows_52 : decode cX6_follows 52 = .ok (.aload_n 0, 1) := by decide +kernel
theorem dX6_follows_53 : decode cX6_follows 53 = .ok (.getfield 34, 3) := by decide +kernel
theorem dX6_follows_56 : decode cX6_follows 56 = .ok (.iload_n 2, 1) := by decide +kernel
theorem dX6_follows_57 : decode cX6_follows 57 = .ok (.iaload, 1) := by decide +kernel
theorem dX6_follows_58 : decode cX6_follows 58 = .ok (.if_icmp .ge 7, 3) := by decide +kernel
theorem dX6_follows_61 : decode cX6_follows 61 = .ok (.iload_n 3, 1) := by decide +kernel
theorem dX6_follows_62 : decode cX6_follows 62 = .ok (.goto 9, 3) := by decide +kernel
theorem dX6_follows_65 : decode cX6_follows 65 = .ok (.aload_n 0, 1) := by decide +kernel
theorem dX6_follows_66 : decode cX6_follows 66 = .ok (.getfield 34, 3) := by decide +kernel
theorem dX6_follows_69 : decode cX6_follows 69 = .ok (.iload_n 2, 1) := by decide +kernel
theorem dX6_follows_70 : decode cX6_follows 70 = .ok (.iaload, 1) := by decide +kernel
theorem dX6_follows_71 : decode cX6_follows 71 = .ok (.iastore, 1) := by decide +kernel
theorem dX6_follows_72 : decode cX6_follows 72 = .ok (.iinc 2 1, 3) := by decide +kernel
theorem dX6_follows_75 : decode cX6_follows 75 = .ok (.goto (-65), 3) := by decide +kernel
theorem dX6_follows_78 : decode cX6_follows 78 = .ok (.iinc 1 1, 3) := by decide +kernel
theorem dX6_follows_81 : decode cX6_follows 81 = .ok (.goto (-79), 3) := by decide +kernel
theorem dX6_follows_84 : decode cX6_follows 84 = .ok (.iconst 1, 1) := by decide +kernel
theorem dX6_follows_85 : decode cX6_follows 85 = .ok (.istore_n 1, 1) := by decide +kernel
theorem dX6_follows_86 : decode cX6_follows 86 = .ok (.iconst 0, 1) := by decide +kernel
theorem dX6_follows_87 : decode cX6_follows 87 = .ok (.istore_n 2, 1) := by decide +kernel
theorem dX6_follows_88 : decode cX6_follows 88 = .ok (.iload_n 2, 1) := by decide +kernel
theorem dX6_follows_89 : decode cX6_follows 89 = .ok (.bipush 8, 2) := by decide +kernel
theorem dX6_follows_91 : decode cX6_follows 91 = .ok (.if_icmp .ge 31, 3) := by decide +kernel
theorem dX6_follows_94 : decode cX6_follows 94 = .ok (.iload_n 1, 1) := by decide +kernel
theorem dX6_follows_95 : decode cX6_follows 95 = .ok (.aload_n 0, 1) := by decide +kernel
theorem dX6_follows_96 : decode cX6_follows 96 = .ok (.getfield 34, 3) := by decide +kernel
theorem dX6_follows_99 : decode cX6_follows 99 = .ok (.bipush 8, 2) := by decide +kernel
theorem dX6_follows_101 : decode cX6_follows 101 = .ok (.iload_n 2, 1) := by decide +kernel
theorem dX6_follows_102 : decode cX6_follows 102 = .ok (.imul, 1) := by decide +kernel
theorem dX6_follows_103 : decode cX6_follows 103 = .ok (.iload_n 2, 1) := by decide +kernel
theorem dX6_follows_104 : decode cX6_follows 104 = .ok (.iadd, 1) := by decide +kernel
theorem dX6_follows_105 : decode cX6_follows 105 = .ok (.iaload, 1) := by decide +kernel
theorem dX6_follows_106 : decode cX6_follows 106 = .ok (.ifCond .lt 7, 3) := by decide +kernel
theorem dX6_follows_109 : decode cX6_follows 109 = .ok (.iconst 1, 1) := by decide +kernel
theorem dX6_follows_110 : decode cX6_follows 110 = .ok (.goto 4, 3) := by decide +kernel
theorem dX6_follows_113 : decode cX6_follows 113 = .ok (.iconst 0, 1) := by decide +kernel
theorem dX6_follows_114 : decode cX6_follows 114 = .ok (.iand, 1) := by decide +kernel
theorem dX6_follows_115 : decode cX6_follows 115 = .ok (.istore_n 1, 1) := by decide +kernel
theorem dX6_follows_116 : decode cX6_follows 116 = .ok (.iinc 2 1, 3) := by decide +kernel
theorem dX6_follows_119 : decode cX6_follows 119 = .ok (.goto (-31), 3) := by decide +kernel
theorem dX6_follows_122 : decode cX6_follows 122 = .ok (.iload_n 1, 1) := by decide +kernel
theorem dX6_follows_123 : decode cX6_follows 123 = .ok (.ireturn, 1) := by decide +kernel
theorem dX6_canHold_0 : decode cX6_canHold 0 = .ok (.aload_n 0, 1) := by decide +kernel
theorem dX6_canHold_1 : decode cX6_canHold 1 = .ok (.iload_n 1, 1) := by decide +kernel
theorem dX6_canHold_2 : decode cX6_canHold 2 = .ok (.invokevirtual 114, 3) := by decide +kernel
theorem dX6_canHold_5 : decode cX6_canHold 5 = .ok (.aload_n 0, 1) := by decide +kernel
theorem dX6_canHold_6 : decode cX6_canHold 6 = .ok (.invokevirtual 118, 3) := by decide +kernel
theorem dX6_canHold_9 : decode cX6_canHold 9 = .ok (.ireturn, 1) := by decide +kernel
theorem dX6_isFitting_0 : decode cX6_isFitting 0 = .ok (.aload_n 0, 1) := by decide +kernel
theorem dX6_isFitting_1 : decode cX6_isFitting 1 = .ok (.aload_n 0, 1) := by decide +kernel
theorem dX6_isFitting_2 : decode cX6_isFitting 2 = .ok (.iconst 0, 1) := by decide +kernel
theorem dX6_isFitting_3 : decode cX6_isFitting 3 = .ok (.invokevirtual 96, 3) := by decide +kernel
theorem dX6_isFitting_6 : decode cX6_isFitting 6 = .ok (.invokevirtual 122, 3) := by decide +kernel
theorem dX6_isFitting_9 : decode cX6_isFitting 9 = .ok (.ireturn, 1) := by decide +kernel
theorem dX6_spanOf_0 : decode cX6_spanOf 0 = .ok (.aload_n 0, 1) := by decide +kernel
theorem dX6_spanOf_1 : decode cX6_spanOf 1 = .ok (.getfield 34, 3) := by decide +kernel
theorem dX6_spanOf_4 : decode cX6_spanOf 4 = .ok (.bipush 8, 2) := by decide +kernel
theorem dX6_spanOf_6 : decode cX6_spanOf 6 = .ok (.iload_n 1, 1) := by decide +kernel
theorem dX6_spanOf_7 : decode cX6_spanOf 7 = .ok (.imul, 1) := by decide +kernel
theorem dX6_spanOf_8 : decode cX6_spanOf 8 = .ok (.iload_n 2, 1) := by decide +kernel
theorem dX6_spanOf_9 : decode cX6_spanOf 9 = .ok (.iadd, 1) := by decide +kernel
theorem dX6_spanOf_10 : decode cX6_spanOf 10 = .ok (.iaload, 1) := by decide +kernel
theorem dX6_spanOf_11 : decode cX6_spanOf 11 = .ok (.aload_n 0, 1) := by decide +kernel
theorem dX6_spanOf_12 : decode cX6_spanOf 12 = .ok (.getfield 34, 3) := by decide +kernel
theorem dX6_spanOf_15 : decode cX6_spanOf 15 = .ok (.bipush 8, 2) := by decide +kernel
theorem dX6_spanOf_17 : decode cX6_spanOf 17 = .ok (.iload_n 2, 1) := by decide +kernel
theorem dX6_spanOf_18 : decode cX6_spanOf 18 = .ok (.imul, 1) := by decide +kernel
theorem dX6_spanOf_19 : decode cX6_spanOf 19 = .ok (.iload_n 1, 1) := by decide +kernel
theorem dX6_spanOf_20 : decode cX6_spanOf 20 = .ok (.iadd, 1) := by decide +kernel
theorem dX6_spanOf_21 : decode cX6_spanOf 21 = .ok (.iaload, 1) := by decide +kernel
theorem dX6_spanOf_22 : decode cX6_spanOf 22 = .ok (.iadd, 1) := by decide +kernel
theorem dX6_spanOf_23 : decode cX6_spanOf 23 = .ok (.iconst 1, 1) := by decide +kernel
theorem dX6_spanOf_24 : decode cX6_spanOf 24 = .ok (.iadd, 1) := by decide +kernel
theorem dX6_spanOf_25 : decode cX6_spanOf 25 = .ok (.ireturn, 1) := by decide +kernel
theorem dX6_spans_0 : decode cX6_spans 0 = .ok (.iconst 0, 1) := by decide +kernel
theorem dX6_spans_1 : decode cX6_spans 1 = .ok (.istore_n 1, 1) := by decide +kernel
theorem dX6_spans_2 : decode cX6_spans 2 = .ok (.iconst 0, 1) := by decide +kernel
theorem dX6_spans_3 : decode cX6_spans 3 = .ok (.istore_n 2, 1) := by decide +kernel
theorem dX6_spans_4 : decode cX6_spans 4 = .ok (.iload_n 2, 1) := by decide +kernel
theorem dX6_spans_5 : decode cX6_spans 5 = .ok (.bipush 8, 2) := by decide +kernel
theorem dX6_spans_7 : decode cX6_spans 7 = .ok (.if_icmp .ge 34, 3) := by decide +kernel
theorem dX6_spans_10 : decode cX6_spans 10 = .ok (.iload_n 2, 1) := by decide +kernel
theorem dX6_spans_11 : decode cX6_spans 11 = .ok (.iconst 1, 1) := by decide +kernel
theorem dX6_spans_12 : decode cX6_spans 12 = .ok (.iadd, 1) := by decide +kernel
theorem dX6_spans_13 : decode cX6_spans 13 = .ok (.istore_n 3, 1) := by decide +kernel
theorem dX6_spans_14 : decode cX6_spans 14 = .ok (.iload_n 3, 1) := by decide +kernel
theorem dX6_spans_15 : decode cX6_spans 15 = .ok (.bipush 8, 2) := by decide +kernel
theorem dX6_spans_17 : decode cX6_spans 17 = .ok (.if_icmp .ge 18, 3) := by decide +kernel
theorem dX6_spans_20 : decode cX6_spans 20 = .ok (.iload_n 1, 1) := by decide +kernel
theorem dX6_spans_21 : decode cX6_spans 21 = .ok (.aload_n 0, 1) := by decide +kernel
theorem dX6_spans_22 : decode cX6_spans 22 = .ok (.iload_n 2, 1) := by decide +kernel
theorem dX6_spans_23 : decode cX6_spans 23 = .ok (.iload_n 3, 1) := by decide +kernel
theorem dX6_spans_24 : decode cX6_spans 24 = .ok (.invokevirtual 125, 3) := by decide +kernel
theorem dX6_spans_27 : decode cX6_spans 27 = .ok (.iadd, 1) := by decide +kernel
theorem dX6_spans_28 : decode cX6_spans 28 = .ok (.istore_n 1, 1) := by decide +kernel
theorem dX6_spans_29 : decode cX6_spans 29 = .ok (.iinc 3 1, 3) := by decide +kernel
theorem dX6_spans_32 : decode cX6_spans 32 = .ok (.goto (-18), 3) := by decide +kernel
theorem dX6_spans_35 : decode cX6_spans 35 = .ok (.iinc 2 1, 3) := by decide +kernel
theorem dX6_spans_38 : decode cX6_spans 38 = .ok (.goto (-34), 3) := by decide +kernel
theorem dX6_spans_41 : decode cX6_spans 41 = .ok (.iload_n 1, 1) := by decide +kernel
theorem dX6_spans_42 : decode cX6_spans 42 = .ok (.ireturn, 1) := by decide +kernel
theorem dX6_fits_0 : decode cX6_fits 0 = .ok (.aload_n 0, 1) := by decide +kernel
theorem dX6_fits_1 : decode cX6_fits 1 = .ok (.invokevirtual 128, 3) := by decide +kernel
theorem dX6_fits_4 : decode cX6_fits 4 = .ok (.ifCond .eq 7, 3) := by decide +kernel
theorem dX6_fits_7 : decode cX6_fits 7 = .ok (.iconst 1, 1) := by decide +kernel
theorem dX6_fits_8 : decode cX6_fits 8 = .ok (.goto 4, 3) := by decide +kernel
theorem dX6_fits_11 : decode cX6_fits 11 = .ok (.iconst 0, 1) := by decide +kernel
theorem dX6_fits_12 : decode cX6_fits 12 = .ok (.ireturn, 1) := by decide +kernel
theorem dX6_span_0 : decode cX6_span 0 = .ok (.iload_n 1, 1) := by decide +kernel
theorem dX6_span_1 : decode cX6_span 1 = .ok (.iload_n 2, 1) := by decide +kernel
theorem dX6_span_2 : decode cX6_span 2 = .ok (.invokestatic 70, 3) := by decide +kernel
theorem dX6_span_5 : decode cX6_span 5 = .ok (.ifCond .eq 15, 3) := by decide +kernel
theorem dX6_span_8 : decode cX6_span 8 = .ok (.iload_n 3, 1) := by decide +kernel
theorem dX6_span_9 : decode cX6_span 9 = .ok (.i2l, 1) := by decide +kernel
theorem dX6_span_10 : decode cX6_span 10 = .ok (.lconst 0, 1) := by decide +kernel
theorem dX6_span_11 : decode cX6_span 11 = .ok (.ldc2_w 131, 3) := by decide +kernel
theorem dX6_span_14 : decode cX6_span 14 = .ok (.invokestatic 42, 3) := by decide +kernel
theorem dX6_span_17 : decode cX6_span 17 = .ok (.ifCond .ne 10, 3) := by decide +kernel
theorem dX6_span_20 : decode cX6_span 20 = .ok (.aload_n 0, 1) := by decide +kernel
theorem dX6_span_21 : decode cX6_span 21 = .ok (.ldc 37, 2) := by decide +kernel
theorem dX6_span_23 : decode cX6_span 23 = .ok (.invokevirtual 47, 3) := by decide +kernel
theorem dX6_span_26 : decode cX6_span 26 = .ok (.ireturn, 1) := by decide +kernel
theorem dX6_span_27 : decode cX6_span 27 = .ok (.aload_n 0, 1) := by decide +kernel
theorem dX6_span_28 : decode cX6_span 28 = .ok (.invokevirtual 128, 3) := by decide +kernel
theorem dX6_span_31 : decode cX6_span 31 = .ok (.ifCond .ne 10, 3) := by decide +kernel
theorem dX6_span_34 : decode cX6_span 34 = .ok (.aload_n 0, 1) := by decide +kernel
theorem dX6_span_35 : decode cX6_span 35 = .ok (.ldc 46, 2) := by decide +kernel
theorem dX6_span_37 : decode cX6_span 37 = .ok (.invokevirtual 47, 3) := by decide +kernel
theorem dX6_span_40 : decode cX6_span 40 = .ok (.ireturn, 1) := by decide +kernel
theorem dX6_span_41 : decode cX6_span 41 = .ok (.iload_n 3, 1) := by decide +kernel
theorem dX6_span_42 : decode cX6_span 42 = .ok (.ifCond .ne 18, 3) := by decide +kernel
theorem dX6_span_45 : decode cX6_span 45 = .ok (.aload_n 0, 1) := by decide +kernel
theorem dX6_span_46 : decode cX6_span 46 = .ok (.getfield 34, 3) := by decide +kernel
theorem dX6_span_49 : decode cX6_span 49 = .ok (.bipush 8, 2) := by decide +kernel
theorem dX6_span_51 : decode cX6_span 51 = .ok (.iload_n 2, 1) := by decide +kernel
theorem dX6_span_52 : decode cX6_span 52 = .ok (.imul, 1) := by decide +kernel
theorem dX6_span_53 : decode cX6_span 53 = .ok (.iload_n 1, 1) := by decide +kernel
theorem dX6_span_54 : decode cX6_span 54 = .ok (.iadd, 1) := by decide +kernel
theorem dX6_span_55 : decode cX6_span 55 = .ok (.iaload, 1) := by decide +kernel
theorem dX6_span_56 : decode cX6_span 56 = .ok (.ineg, 1) := by decide +kernel
theorem dX6_span_57 : decode cX6_span 57 = .ok (.goto 28, 3) := by decide +kernel
theorem dX6_span_60 : decode cX6_span 60 = .ok (.iload_n 3, 1) := by decide +kernel
theorem dX6_span_61 : decode cX6_span 61 = .ok (.iconst 1, 1) := by decide +kernel
theorem dX6_span_62 : decode cX6_span 62 = .ok (.if_icmp .ne 17, 3) := by decide +kernel
theorem dX6_span_65 : decode cX6_span 65 = .ok (.aload_n 0, 1) := by decide +kernel
theorem dX6_span_66 : decode cX6_span 66 = .ok (.getfield 34, 3) := by decide +kernel
theorem dX6_span_69 : decode cX6_span 69 = .ok (.bipush 8, 2) := by decide +kernel
theorem dX6_span_71 : decode cX6_span 71 = .ok (.iload_n 1, 1) := by decide +kernel
theorem dX6_span_72 : decode cX6_span 72 = .ok (.imul, 1) := by decide +kernel
theorem dX6_span_73 : decode cX6_span 73 = .ok (.iload_n 2, 1) := by decide +kernel
theorem dX6_span_74 : decode cX6_span 74 = .ok (.iadd, 1) := by decide +kernel
theorem dX6_span_75 : decode cX6_span 75 = .ok (.iaload, 1) := by decide +kernel
theorem dX6_span_76 : decode cX6_span 76 = .ok (.goto 9, 3) := by decide +kernel
theorem dX6_span_79 : decode cX6_span 79 = .ok (.aload_n 0, 1) := by decide +kernel
theorem dX6_span_80 : decode cX6_span 80 = .ok (.iload_n 1, 1) := by decide +kernel
theorem dX6_span_81 : decode cX6_span 81 = .ok (.iload_n 2, 1) := by decide +kernel
theorem dX6_span_82 : decode cX6_span 82 = .ok (.invokevirtual 125, 3) := by decide +kernel
theorem dX6_span_85 : decode cX6_span 85 = .ok (.ireturn, 1) := by decide +kernel
theorem dX6_sure_0 : decode cX6_sure 0 = .ok (.iload_n 1, 1) := by decide +kernel
theorem dX6_sure_1 : decode cX6_sure 1 = .ok (.invokestatic 38, 3) := by decide +kernel
theorem dX6_sure_4 : decode cX6_sure 4 = .ok (.ifCond .ne 10, 3) := by decide +kernel
theorem dX6_sure_7 : decode cX6_sure 7 = .ok (.aload_n 0, 1) := by decide +kernel
theorem dX6_sure_8 : decode cX6_sure 8 = .ok (.ldc 37, 2) := by decide +kernel
theorem dX6_sure_10 : decode cX6_sure 10 = .ok (.invokevirtual 47, 3) := by decide +kernel
theorem dX6_sure_13 : decode cX6_sure 13 = .ok (.ireturn, 1) := by decide +kernel
theorem dX6_sure_14 : decode cX6_sure 14 = .ok (.aload_n 0, 1) := by decide +kernel
theorem dX6_sure_15 : decode cX6_sure 15 = .ok (.invokevirtual 128, 3) := by decide +kernel
theorem dX6_sure_18 : decode cX6_sure 18 = .ok (.ifCond .ne 10, 3) := by decide +kernel
theorem dX6_sure_21 : decode cX6_sure 21 = .ok (.aload_n 0, 1) := by decide +kernel
theorem dX6_sure_22 : decode cX6_sure 22 = .ok (.ldc 46, 2) := by decide +kernel
theorem dX6_sure_24 : decode cX6_sure 24 = .ok (.invokevirtual 47, 3) := by decide +kernel
theorem dX6_sure_27 : decode cX6_sure 27 = .ok (.ireturn, 1) := by decide +kernel
theorem dX6_sure_28 : decode cX6_sure 28 = .ok (.iconst 0, 1) := by decide +kernel
theorem dX6_sure_29 : decode cX6_sure 29 = .ok (.istore_n 2, 1) := by decide +kernel
theorem dX6_sure_30 : decode cX6_sure 30 = .ok (.iconst 0, 1) := by decide +kernel
theorem dX6_sure_31 : decode cX6_sure 31 = .ok (.istore_n 3, 1) := by decide +kernel
theorem dX6_sure_32 : decode cX6_sure 32 = .ok (.iload_n 3, 1) := by decide +kernel
theorem dX6_sure_33 : decode cX6_sure 33 = .ok (.bipush 8, 2) := by decide +kernel
theorem dX6_sure_35 : decode cX6_sure 35 = .ok (.if_icmp .ge 29, 3) := by decide +kernel
theorem dX6_sure_38 : decode cX6_sure 38 = .ok (.iload_n 2, 1) := by decide +kernel
theorem dX6_sure_39 : decode cX6_sure 39 = .ok (.aload_n 0, 1) := by decide +kernel
theorem dX6_sure_40 : decode cX6_sure 40 = .ok (.iload_n 1, 1) := by decide +kernel
theorem dX6_sure_41 : decode cX6_sure 41 = .ok (.iload_n 3, 1) := by decide +kernel
theorem dX6_sure_42 : decode cX6_sure 42 = .ok (.invokevirtual 125, 3) := by decide +kernel
theorem dX6_sure_45 : decode cX6_sure 45 = .ok (.iconst 1, 1) := by decide +kernel
theorem dX6_sure_46 : decode cX6_sure 46 = .ok (.if_icmp .ne 9, 3) := by decide +kernel
theorem dX6_sure_49 : decode cX6_sure 49 = .ok (.iconst 1, 1) := by decide +kernel
theorem dX6_sure_50 : decode cX6_sure 50 = .ok (.iload_n 3, 1) := by decide +kernel
theorem dX6_sure_51 : decode cX6_sure 51 = .ok (.ishl, 1) := by decide +kernel
theorem dX6_sure_52 : decode cX6_sure 52 = .ok (.goto 4, 3) := by decide +kernel
theorem dX6_sure_55 : decode cX6_sure 55 = .ok (.iconst 0, 1) := by decide +kernel
theorem dX6_sure_56 : decode cX6_sure 56 = .ok (.ior, 1) := by decide +kernel
theorem dX6_sure_57 : decode cX6_sure 57 = .ok (.istore_n 2, 1) := by decide +kernel
theorem dX6_sure_58 : decode cX6_sure 58 = .ok (.iinc 3 1, 3) := by decide +kernel
theorem dX6_sure_61 : decode cX6_sure 61 = .ok (.goto (-29), 3) := by decide +kernel
theorem dX6_sure_64 : decode cX6_sure 64 = .ok (.iload_n 2, 1) := by decide +kernel
theorem dX6_sure_65 : decode cX6_sure 65 = .ok (.ireturn, 1) := by decide +kernel
theorem dX6_below_0 : decode cX6_below 0 = .ok (.iload_n 1, 1) := by decide +kernel
theorem dX6_below_1 : decode cX6_below 1 = .ok (.invokestatic 38, 3) := by decide +kernel
theorem dX6_below_4 : decode cX6_below 4 = .ok (.ifCond .ne 10, 3) := by decide +kernel
theorem dX6_below_7 : decode cX6_below 7 = .ok (.aload_n 0, 1) := by decide +kernel
theorem dX6_below_8 : decode cX6_below 8 = .ok (.ldc 37, 2) := by decide +kernel
theorem dX6_below_10 : decode cX6_below 10 = .ok (.invokevirtual 47, 3) := by decide +kernel
theorem dX6_below_13 : decode cX6_below 13 = .ok (.ireturn, 1) := by decide +kernel
theorem dX6_below_14 : decode cX6_below 14 = .ok (.aload_n 0, 1) := by decide +kernel
theorem dX6_below_15 : decode cX6_below 15 = .ok (.invokevirtual 128, 3) := by decide +kernel
theorem dX6_below_18 : decode cX6_below 18 = .ok (.ifCond .ne 10, 3) := by decide +kernel
theorem dX6_below_21 : decode cX6_below 21 = .ok (.aload_n 0, 1) := by decide +kernel
theorem dX6_below_22 : decode cX6_below 22 = .ok (.ldc 46, 2) := by decide +kernel
theorem dX6_below_24 : decode cX6_below 24 = .ok (.invokevirtual 47, 3) := by decide +kernel
theorem dX6_below_27 : decode cX6_below 27 = .ok (.ireturn, 1) := by decide +kernel
theorem dX6_below_28 : decode cX6_below 28 = .ok (.iconst 0, 1) := by decide +kernel
theorem dX6_below_29 : decode cX6_below 29 = .ok (.istore_n 2, 1) := by decide +kernel
theorem dX6_below_30 : decode cX6_below 30 = .ok (.iconst 0, 1) := by decide +kernel
theorem dX6_below_31 : decode cX6_below 31 = .ok (.istore_n 3, 1) := by decide +kernel
theorem dX6_below_32 : decode cX6_below 32 = .ok (.iload_n 3, 1) := by decide +kernel
theorem dX6_below_33 : decode cX6_below 33 = .ok (.bipush 8, 2) := by decide +kernel
theorem dX6_below_35 : decode cX6_below 35 = .ok (.if_icmp .ge 33, 3) := by decide +kernel
theorem dX6_below_38 : decode cX6_below 38 = .ok (.iload_n 2, 1) := by decide +kernel
theorem dX6_below_39 : decode cX6_below 39 = .ok (.aload_n 0, 1) := by decide +kernel
theorem dX6_below_40 : decode cX6_below 40 = .ok (.getfield 34, 3) := by decide +kernel
theorem dX6_below_43 : decode cX6_below 43 = .ok (.bipush 8, 2) := by decide +kernel
theorem dX6_below_45 : decode cX6_below 45 = .ok (.iload_n 3, 1) := by decide +kernel
theorem dX6_below_46 : decode cX6_below 46 = .ok (.imul, 1) := by decide +kernel
theorem dX6_below_47 : decode cX6_below 47 = .ok (.iload_n 1, 1) := by decide +kernel
theorem dX6_below_48 : decode cX6_below 48 = .ok (.iadd, 1) := by decide +kernel
theorem dX6_below_49 : decode cX6_below 49 = .ok (.iaload, 1) := by decide +kernel
theorem dX6_below_50 : decode cX6_below 50 = .ok (.ifCond .ge 9, 3) := by decide +kernel
theorem dX6_below_53 : decode cX6_below 53 = .ok (.iconst 1, 1) := by decide +kernel
theorem dX6_below_54 : decode cX6_below 54 = .ok (.iload_n 3, 1) := by decide +kernel
theorem dX6_below_55 : decode cX6_below 55 = .ok (.ishl, 1) := by decide +kernel
theorem dX6_below_56 : decode cX6_below 56 = .ok (.goto 4, 3) := by decide +kernel
theorem dX6_below_59 : decode cX6_below 59 = .ok (.iconst 0, 1) := by decide +kernel
theorem dX6_below_60 : decode cX6_below 60 = .ok (.ior, 1) := by decide +kernel
theorem dX6_below_61 : decode cX6_below 61 = .ok (.istore_n 2, 1) := by decide +kernel
theorem dX6_below_62 : decode cX6_below 62 = .ok (.iinc 3 1, 3) := by decide +kernel
theorem dX6_below_65 : decode cX6_below 65 = .ok (.goto (-33), 3) := by decide +kernel
theorem dX6_below_68 : decode cX6_below 68 = .ok (.iload_n 2, 1) := by decide +kernel
theorem dX6_below_69 : decode cX6_below 69 = .ok (.ireturn, 1) := by decide +kernel
theorem dX6_widest_0 : decode cX6_widest 0 = .ok (.aload_n 0, 1) := by decide +kernel
theorem dX6_widest_1 : decode cX6_widest 1 = .ok (.invokevirtual 128, 3) := by decide +kernel
theorem dX6_widest_4 : decode cX6_widest 4 = .ok (.ifCond .ne 10, 3) := by decide +kernel
theorem dX6_widest_7 : decode cX6_widest 7 = .ok (.aload_n 0, 1) := by decide +kernel
theorem dX6_widest_8 : decode cX6_widest 8 = .ok (.ldc 46, 2) := by decide +kernel
theorem dX6_widest_10 : decode cX6_widest 10 = .ok (.invokevirtual 47, 3) := by decide +kernel
theorem dX6_widest_13 : decode cX6_widest 13 = .ok (.ireturn, 1) := by decide +kernel
theorem dX6_widest_14 : decode cX6_widest 14 = .ok (.iconst 1, 1) := by decide +kernel
theorem dX6_widest_15 : decode cX6_widest 15 = .ok (.istore_n 1, 1) := by decide +kernel
theorem dX6_widest_16 : decode cX6_widest 16 = .ok (.iconst 2, 1) := by decide +kernel
theorem dX6_widest_17 : decode cX6_widest 17 = .ok (.istore_n 2, 1) := by decide +kernel
theorem dX6_widest_18 : decode cX6_widest 18 = .ok (.iload_n 2, 1) := by decide +kernel
theorem dX6_widest_19 : decode cX6_widest 19 = .ok (.bipush 64, 2) := by decide +kernel
theorem dX6_widest_21 : decode cX6_widest 21 = .ok (.if_icmp .ge 53, 3) := by decide +kernel
theorem dX6_widest_24 : decode cX6_widest 24 = .ok (.iload_n 2, 1) := by decide +kernel
theorem dX6_widest_25 : decode cX6_widest 25 = .ok (.bipush 8, 2) := by decide +kernel
theorem dX6_widest_27 : decode cX6_widest 27 = .ok (.idiv, 1) := by decide +kernel
theorem dX6_widest_28 : decode cX6_widest 28 = .ok (.iload_n 2, 1) := by decide +kernel
theorem dX6_widest_29 : decode cX6_widest 29 = .ok (.bipush 8, 2) := by decide +kernel
theorem dX6_widest_31 : decode cX6_widest 31 = .ok (.irem, 1) := by decide +kernel
theorem dX6_widest_32 : decode cX6_widest 32 = .ok (.if_icmp .ge 34, 3) := by decide +kernel
theorem dX6_widest_35 : decode cX6_widest 35 = .ok (.aload_n 0, 1) := by decide +kernel
theorem dX6_widest_36 : decode cX6_widest 36 = .ok (.iload_n 2, 1) := by decide +kernel
theorem dX6_widest_37 : decode cX6_widest 37 = .ok (.bipush 8, 2) := by decide +kernel
theorem dX6_widest_39 : decode cX6_widest 39 = .ok (.idiv, 1) := by decide +kernel
theorem dX6_widest_40 : decode cX6_widest 40 = .ok (.iload_n 2, 1) := by decide +kernel
theorem dX6_widest_41 : decode cX6_widest 41 = .ok (.bipush 8, 2) := by decide +kernel
theorem dX6_widest_43 : decode cX6_widest 43 = .ok (.irem, 1) := by decide +kernel
theorem dX6_widest_44 : decode cX6_widest 44 = .ok (.invokevirtual 125, 3) := by decide +kernel
theorem dX6_widest_47 : decode cX6_widest 47 = .ok (.aload_n 0, 1) := by decide +kernel
theorem dX6_widest_48 : decode cX6_widest 48 = .ok (.iload_n 1, 1) := by decide +kernel
theorem dX6_widest_49 : decode cX6_widest 49 = .ok (.bipush 8, 2) := by decide +kernel
theorem dX6_widest_51 : decode cX6_widest 51 = .ok (.idiv, 1) := by decide +kernel
theorem dX6_widest_52 : decode cX6_widest 52 = .ok (.iload_n 1, 1) := by decide +kernel
theorem dX6_widest_53 : decode cX6_widest 53 = .ok (.bipush 8, 2) := by decide +kernel
theorem dX6_widest_55 : decode cX6_widest 55 = .ok (.irem, 1) := by decide +kernel
theorem dX6_widest_56 : decode cX6_widest 56 = .ok (.invokevirtual 125, 3) := by decide +kernel
theorem dX6_widest_59 : decode cX6_widest 59 = .ok (.if_icmp .le 7, 3) := by decide +kernel
theorem dX6_widest_62 : decode cX6_widest 62 = .ok (.iload_n 2, 1) := by decide +kernel
theorem dX6_widest_63 : decode cX6_widest 63 = .ok (.goto 4, 3) := by decide +kernel
theorem dX6_widest_66 : decode cX6_widest 66 = .ok (.iload_n 1, 1) := by decide +kernel
theorem dX6_widest_67 : decode cX6_widest 67 = .ok (.istore_n 1, 1) := by decide +kernel
theorem dX6_widest_68 : decode cX6_widest 68 = .ok (.iinc 2 1, 3) := by decide +kernel
theorem dX6_widest_71 : decode cX6_widest 71 = .ok (.goto (-53), 3) := by decide +kernel
theorem dX6_widest_74 : decode cX6_widest 74 = .ok (.iload_n 1, 1) := by decide +kernel
theorem dX6_widest_75 : decode cX6_widest 75 = .ok (.ireturn, 1) := by decide +kernel
theorem dX6_unknown_0 : decode cX6_unknown 0 = .ok (.aload_n 0, 1) := by decide +kernel
theorem dX6_unknown_1 : decode cX6_unknown 1 = .ok (.invokevirtual 128, 3) := by decide +kernel
theorem dX6_unknown_4 : decode cX6_unknown 4 = .ok (.ifCond .eq 10, 3) := by decide +kernel
theorem dX6_unknown_7 : decode cX6_unknown 7 = .ok (.aload_n 0, 1) := by decide +kernel
theorem dX6_unknown_8 : decode cX6_unknown 8 = .ok (.invokevirtual 133, 3) := by decide +kernel
theorem dX6_unknown_11 : decode cX6_unknown 11 = .ok (.goto 9, 3) := by decide +kernel
theorem dX6_unknown_14 : decode cX6_unknown 14 = .ok (.aload_n 0, 1) := by decide +kernel
theorem dX6_unknown_15 : decode cX6_unknown 15 = .ok (.ldc 46, 2) := by decide +kernel
theorem dX6_unknown_17 : decode cX6_unknown 17 = .ok (.invokevirtual 47, 3) := by decide +kernel
theorem dX6_unknown_20 : decode cX6_unknown 20 = .ok (.ireturn, 1) := by decide +kernel
theorem dX6_can_0 : decode cX6_can 0 = .ok (.iload_n 1, 1) := by decide +kernel
theorem dX6_can_1 : decode cX6_can 1 = .ok (.iload_n 2, 1) := by decide +kernel
theorem dX6_can_2 : decode cX6_can 2 = .ok (.invokestatic 70, 3) := by decide +kernel
theorem dX6_can_5 : decode cX6_can 5 = .ok (.ifCond .eq 17, 3) := by decide +kernel
theorem dX6_can_8 : decode cX6_can 8 = .ok (.iload_n 3, 1) := by decide +kernel
theorem dX6_can_9 : decode cX6_can 9 = .ok (.i2l, 1) := by decide +kernel
theorem dX6_can_10 : decode cX6_can 10 = .ok (.ldc2_w 136, 3) := by decide +kernel
theorem dX6_can_13 : decode cX6_can 13 = .ok (.ldc2_w 78, 3) := by decide +kernel
theorem dX6_can_16 : decode cX6_can 16 = .ok (.invokestatic 42, 3) := by decide +kernel
theorem dX6_can_19 : decode cX6_can 19 = .ok (.ifCond .ne 10, 3) := by decide +kernel
theorem dX6_can_22 : decode cX6_can 22 = .ok (.aload_n 0, 1) := by decide +kernel
theorem dX6_can_23 : decode cX6_can 23 = .ok (.ldc 37, 2) := by decide +kernel
theorem dX6_can_25 : decode cX6_can 25 = .ok (.invokevirtual 47, 3) := by decide +kernel
theorem dX6_can_28 : decode cX6_can 28 = .ok (.ireturn, 1) := by decide +kernel
theorem dX6_can_29 : decode cX6_can 29 = .ok (.aload_n 0, 1) := by decide +kernel
theorem dX6_can_30 : decode cX6_can 30 = .ok (.invokevirtual 128, 3) := by decide +kernel
theorem dX6_can_33 : decode cX6_can 33 = .ok (.ifCond .eq 38, 3) := by decide +kernel
theorem dX6_can_36 : decode cX6_can 36 = .ok (.iload_n 3, 1) := by decide +kernel
theorem dX6_can_37 : decode cX6_can 37 = .ok (.aload_n 0, 1) := by decide +kernel
theorem dX6_can_38 : decode cX6_can 38 = .ok (.getfield 34, 3) := by decide +kernel
theorem dX6_can_41 : decode cX6_can 41 = .ok (.bipush 8, 2) := by decide +kernel
theorem dX6_can_43 : decode cX6_can 43 = .ok (.iload_n 1, 1) := by decide +kernel
theorem dX6_can_44 : decode cX6_can 44 = .ok (.imul, 1) := by decide +kernel
theorem dX6_can_45 : decode cX6_can 45 = .ok (.iload_n 2, 1) := by decide +kernel
theorem dX6_can_46 : decode cX6_can 46 = .ok (.iadd, 1) := by decide +kernel
theorem dX6_can_47 : decode cX6_can 47 = .ok (.iaload, 1) := by decide +kernel
theorem dX6_can_48 : decode cX6_can 48 = .ok (.if_icmp .gt 23, 3) := by decide +kernel
theorem dX6_can_51 : decode cX6_can 51 = .ok (.iload_n 3, 1) := by decide +kernel
theorem dX6_can_52 : decode cX6_can 52 = .ok (.ineg, 1) := by decide +kernel
theorem dX6_can_53 : decode cX6_can 53 = .ok (.aload_n 0, 1) := by decide +kernel
theorem dX6_can_54 : decode cX6_can 54 = .ok (.getfield 34, 3) := by decide +kernel
theorem dX6_can_57 : decode cX6_can 57 = .ok (.bipush 8, 2) := by decide +kernel
theorem dX6_can_59 : decode cX6_can 59 = .ok (.iload_n 2, 1) := by decide +kernel
theorem dX6_can_60 : decode cX6_can 60 = .ok (.imul, 1) := by decide +kernel
theorem dX6_can_61 : decode cX6_can 61 = .ok (.iload_n 1, 1) := by decide +kernel
theorem dX6_can_62 : decode cX6_can 62 = .ok (.iadd, 1) := by decide +kernel
theorem dX6_can_63 : decode cX6_can 63 = .ok (.iaload, 1) := by decide +kernel
theorem dX6_can_64 : decode cX6_can 64 = .ok (.if_icmp .gt 7, 3) := by decide +kernel
theorem dX6_can_67 : decode cX6_can 67 = .ok (.iconst 1, 1) := by decide +kernel
theorem dX6_can_68 : decode cX6_can 68 = .ok (.goto 4, 3) := by decide +kernel
theorem dX6_can_71 : decode cX6_can 71 = .ok (.iconst 0, 1) := by decide +kernel
theorem dX6_can_72 : decode cX6_can 72 = .ok (.ireturn, 1) := by decide +kernel
theorem dX6_when_0 : decode cX6_when 0 = .ok (.iconst 0, 1) := by decide +kernel
theorem dX6_when_1 : decode cX6_when 1 = .ok (.istore_n 1, 1) := by decide +kernel
theorem dX6_when_2 : decode cX6_when 2 = .ok (.iload_n 1, 1) := by decide +kernel
theorem dX6_when_3 : decode cX6_when 3 = .ok (.sipush 500, 3) := by decide +kernel
theorem dX6_when_6 : decode cX6_when 6 = .ok (.if_icmp .gt 21, 3) := by decide +kernel
theorem dX6_when_9 : decode cX6_when 9 = .ok (.aload_n 0, 1) := by decide +kernel
theorem dX6_when_10 : decode cX6_when 10 = .ok (.aload_n 0, 1) := by decide +kernel
theorem dX6_when_11 : decode cX6_when 11 = .ok (.iload_n 1, 1) := by decide +kernel
theorem dX6_when_12 : decode cX6_when 12 = .ok (.invokevirtual 96, 3) := by decide +kernel
theorem dX6_when_15 : decode cX6_when 15 = .ok (.invokevirtual 122, 3) := by decide +kernel
theorem dX6_when_18 : decode cX6_when 18 = .ok (.ifCond .eq 9, 3) := by decide +kernel
theorem dX6_when_21 : decode cX6_when 21 = .ok (.iinc 1 1, 3) := by decide +kernel
theorem dX6_when_24 : decode cX6_when 24 = .ok (.goto (-22), 3) := by decide +kernel
theorem dX6_when_27 : decode cX6_when 27 = .ok (.iload_n 1, 1) := by decide +kernel
theorem dX6_when_28 : decode cX6_when 28 = .ok (.sipush 500, 3) := by decide +kernel
theorem dX6_when_31 : decode cX6_when 31 = .ok (.if_icmp .gt 7, 3) := by decide +kernel
theorem dX6_when_34 : decode cX6_when 34 = .ok (.iload_n 1, 1) := by decide +kernel
theorem dX6_when_35 : decode cX6_when 35 = .ok (.goto 9, 3) := by decide +kernel
theorem dX6_when_38 : decode cX6_when 38 = .ok (.aload_n 0, 1) := by decide +kernel
theorem dX6_when_39 : decode cX6_when 39 = .ok (.ldc 46, 2) := by decide +kernel
theorem dX6_when_41 : decode cX6_when 41 = .ok (.invokevirtual 47, 3) := by decide +kernel
theorem dX6_when_44 : decode cX6_when 44 = .ok (.ireturn, 1) := by decide +kernel
theorem dX6_ahead_0 : decode cX6_ahead 0 = .ok (.iload_n 1, 1) := by decide +kernel
theorem dX6_ahead_1 : decode cX6_ahead 1 = .ok (.i2l, 1) := by decide +kernel
theorem dX6_ahead_2 : decode cX6_ahead 2 = .ok (.lconst 0, 1) := by decide +kernel
theorem dX6_ahead_3 : decode cX6_ahead 3 = .ok (.ldc2_w 138, 3) := by decide +kernel
theorem dX6_ahead_6 : decode cX6_ahead 6 = .ok (.invokestatic 42, 3) := by decide +kernel
theorem dX6_ahead_9 : decode cX6_ahead 9 = .ok (.ifCond .eq 11, 3) := by decide +kernel
theorem dX6_ahead_12 : decode cX6_ahead 12 = .ok (.aload_n 0, 1) := by decide +kernel
theorem dX6_ahead_13 : decode cX6_ahead 13 = .ok (.iload_n 1, 1) := by decide +kernel
theorem dX6_ahead_14 : decode cX6_ahead 14 = .ok (.invokevirtual 96, 3) := by decide +kernel
theorem dX6_ahead_17 : decode cX6_ahead 17 = .ok (.goto 9, 3) := by decide +kernel
theorem dX6_ahead_20 : decode cX6_ahead 20 = .ok (.aload_n 0, 1) := by decide +kernel
theorem dX6_ahead_21 : decode cX6_ahead 21 = .ok (.ldc 37, 2) := by decide +kernel
theorem dX6_ahead_23 : decode cX6_ahead 23 = .ok (.invokevirtual 47, 3) := by decide +kernel
theorem dX6_ahead_26 : decode cX6_ahead 26 = .ok (.ireturn, 1) := by decide +kernel
theorem dX6_known_0 : decode cX6_known 0 = .ok (.iload_n 1, 1) := by decide +kernel
theorem dX6_known_1 : decode cX6_known 1 = .ok (.iload_n 2, 1) := by decide +kernel
theorem dX6_known_2 : decode cX6_known 2 = .ok (.invokestatic 70, 3) := by decide +kernel
theorem dX6_known_5 : decode cX6_known 5 = .ok (.ifCond .ne 10, 3) := by decide +kernel
theorem dX6_known_8 : decode cX6_known 8 = .ok (.aload_n 0, 1) := by decide +kernel
theorem dX6_known_9 : decode cX6_known 9 = .ok (.ldc 37, 2) := by decide +kernel
theorem dX6_known_11 : decode cX6_known 11 = .ok (.invokevirtual 47, 3) := by decide +kernel
theorem dX6_known_14 : decode cX6_known 14 = .ok (.ireturn, 1) := by decide +kernel
theorem dX6_known_15 : decode cX6_known 15 = .ok (.iconst 0, 1) := by decide +kernel
theorem dX6_known_16 : decode cX6_known 16 = .ok (.istore_n 3, 1) := by decide +kernel
theorem dX6_known_17 : decode cX6_known 17 = .ok (.iload_n 3, 1) := by decide +kernel
theorem dX6_known_18 : decode cX6_known 18 = .ok (.sipush 500, 3) := by decide +kernel
theorem dX6_known_21 : decode cX6_known 21 = .ok (.if_icmp .gt 31, 3) := by decide +kernel
theorem dX6_known_24 : decode cX6_known 24 = .ok (.aload_n 0, 1) := by decide +kernel
theorem dX6_known_25 : decode cX6_known 25 = .ok (.aload_n 0, 1) := by decide +kernel
theorem dX6_known_26 : decode cX6_known 26 = .ok (.iload_n 3, 1) := by decide +kernel
theorem dX6_known_27 : decode cX6_known 27 = .ok (.invokevirtual 96, 3) := by decide +kernel
theorem dX6_known_30 : decode cX6_known 30 = .ok (.invokevirtual 122, 3) := by decide +kernel
theorem dX6_known_33 : decode cX6_known 33 = .ok (.ifCond .eq 13, 3) := by decide +kernel
theorem dX6_known_36 : decode cX6_known 36 = .ok (.aload_n 0, 1) := by decide +kernel
theorem dX6_known_37 : decode cX6_known 37 = .ok (.iload_n 1, 1) := by decide +kernel
theorem dX6_known_38 : decode cX6_known 38 = .ok (.iload_n 2, 1) := by decide +kernel
theorem dX6_known_39 : decode cX6_known 39 = .ok (.invokevirtual 125, 3) := by decide +kernel
theorem dX6_known_42 : decode cX6_known 42 = .ok (.iconst 1, 1) := by decide +kernel
theorem dX6_known_43 : decode cX6_known 43 = .ok (.if_icmp .eq 9, 3) := by decide +kernel
theorem dX6_known_46 : decode cX6_known 46 = .ok (.iinc 3 1, 3) := by decide +kernel
theorem dX6_known_49 : decode cX6_known 49 = .ok (.goto (-32), 3) := by decide +kernel
theorem dX6_known_52 : decode cX6_known 52 = .ok (.iload_n 3, 1) := by decide +kernel
theorem dX6_known_53 : decode cX6_known 53 = .ok (.sipush 500, 3) := by decide +kernel
theorem dX6_known_56 : decode cX6_known 56 = .ok (.if_icmp .gt 7, 3) := by decide +kernel
theorem dX6_known_59 : decode cX6_known 59 = .ok (.iload_n 3, 1) := by decide +kernel
theorem dX6_known_60 : decode cX6_known 60 = .ok (.goto 9, 3) := by decide +kernel
theorem dX6_known_63 : decode cX6_known 63 = .ok (.aload_n 0, 1) := by decide +kernel
theorem dX6_known_64 : decode cX6_known 64 = .ok (.ldc 46, 2) := by decide +kernel
theorem dX6_known_66 : decode cX6_known 66 = .ok (.invokevirtual 47, 3) := by decide +kernel
theorem dX6_known_69 : decode cX6_known 69 = .ok (.ireturn, 1) := by decide +kernel
theorem dX6_many_0 : decode cX6_many 0 = .ok (.iconst 0, 1) := by decide +kernel
theorem dX6_many_1 : decode cX6_many 1 = .ok (.istore_n 1, 1) := by decide +kernel
theorem dX6_many_2 : decode cX6_many 2 = .ok (.iload_n 0, 1) := by decide +kernel
theorem dX6_many_3 : decode cX6_many 3 = .ok (.istore_n 2, 1) := by decide +kernel
theorem dX6_many_4 : decode cX6_many 4 = .ok (.iload_n 2, 1) := by decide +kernel
theorem dX6_many_5 : decode cX6_many 5 = .ok (.ifCond .eq 15, 3) := by decide +kernel
theorem dX6_many_8 : decode cX6_many 8 = .ok (.iinc 1 1, 3) := by decide +kernel
theorem dX6_many_11 : decode cX6_many 11 = .ok (.iload_n 2, 1) := by decide +kernel
theorem dX6_many_12 : decode cX6_many 12 = .ok (.iload_n 2, 1) := by decide +kernel
theorem dX6_many_13 : decode cX6_many 13 = .ok (.iconst 1, 1) := by decide +kernel
theorem dX6_many_14 : decode cX6_many 14 = .ok (.isub, 1) := by decide +kernel
theorem dX6_many_15 : decode cX6_many 15 = .ok (.iand, 1) := by decide +kernel
theorem dX6_many_16 : decode cX6_many 16 = .ok (.istore_n 2, 1) := by decide +kernel
theorem dX6_many_17 : decode cX6_many 17 = .ok (.goto (-13), 3) := by decide +kernel
theorem dX6_many_20 : decode cX6_many 20 = .ok (.iload_n 1, 1) := by decide +kernel
theorem dX6_many_21 : decode cX6_many 21 = .ok (.ireturn, 1) := by decide +kernel
theorem dX6_agree_0 : decode cX6_agree 0 = .ok (.aload_n 0, 1) := by decide +kernel
theorem dX6_agree_1 : decode cX6_agree 1 = .ok (.iload_n 1, 1) := by decide +kernel
theorem dX6_agree_2 : decode cX6_agree 2 = .ok (.invokevirtual 140, 3) := by decide +kernel
theorem dX6_agree_5 : decode cX6_agree 5 = .ok (.ifCond .ne 10, 3) := by decide +kernel
theorem dX6_agree_8 : decode cX6_agree 8 = .ok (.aload_n 0, 1) := by decide +kernel
theorem dX6_agree_9 : decode cX6_agree 9 = .ok (.ldc 37, 2) := by decide +kernel
theorem dX6_agree_11 : decode cX6_agree 11 = .ok (.invokevirtual 47, 3) := by decide +kernel
theorem dX6_agree_14 : decode cX6_agree 14 = .ok (.ireturn, 1) := by decide +kernel
theorem dX6_agree_15 : decode cX6_agree 15 = .ok (.aload_n 0, 1) := by decide +kernel
theorem dX6_agree_16 : decode cX6_agree 16 = .ok (.iload_n 1, 1) := by decide +kernel
theorem dX6_agree_17 : decode cX6_agree 17 = .ok (.invokevirtual 122, 3) := by decide +kernel
theorem dX6_agree_20 : decode cX6_agree 20 = .ok (.ifCond .eq 7, 3) := by decide +kernel
theorem dX6_agree_23 : decode cX6_agree 23 = .ok (.iconst 1, 1) := by decide +kernel
theorem dX6_agree_24 : decode cX6_agree 24 = .ok (.goto 4, 3) := by decide +kernel
theorem dX6_agree_27 : decode cX6_agree 27 = .ok (.iconst 0, 1) := by decide +kernel
theorem dX6_agree_28 : decode cX6_agree 28 = .ok (.ireturn, 1) := by decide +kernel
theorem dX6_fewestOf_0 : decode cX6_fewestOf 0 = .ok (.iconst (-1), 1) := by decide +kernel
theorem dX6_fewestOf_1 : decode cX6_fewestOf 1 = .ok (.istore_n 3, 1) := by decide +kernel
theorem dX6_fewestOf_2 : decode cX6_fewestOf 2 = .ok (.aload_n 0, 1) := by decide +kernel
theorem dX6_fewestOf_3 : decode cX6_fewestOf 3 = .ok (.iconst 0, 1) := by decide +kernel
theorem dX6_fewestOf_4 : decode cX6_fewestOf 4 = .ok (.putfield 143, 3) := by decide +kernel
theorem dX6_fewestOf_7 : decode cX6_fewestOf 7 = .ok (.iconst 0, 1) := by decide +kernel
theorem dX6_fewestOf_8 : decode cX6_fewestOf 8 = .ok (.istore 4, 2) := by decide +kernel
theorem dX6_fewestOf_10 : decode cX6_fewestOf 10 = .ok (.iload 4, 2) := by decide +kernel
theorem dX6_fewestOf_12 : decode cX6_fewestOf 12 = .ok (.iload_n 1, 1) := by decide +kernel
theorem dX6_fewestOf_13 : decode cX6_fewestOf 13 = .ok (.if_icmp .gt 114, 3) := by decide +kernel
theorem dX6_fewestOf_16 : decode cX6_fewestOf 16 = .ok (.iload_n 3, 1) := by decide +kernel
theorem dX6_fewestOf_17 : decode cX6_fewestOf 17 = .ok (.ifCond .lt 15, 3) := by decide +kernel
theorem dX6_fewestOf_20 : decode cX6_fewestOf 20 = .ok (.iload 4, 2) := by decide +kernel
theorem dX6_fewestOf_22 : decode cX6_fewestOf 22 = .ok (.invokestatic 147, 3) := by decide +kernel
theorem dX6_fewestOf_25 : decode cX6_fewestOf 25 = .ok (.iload_n 3, 1) := by decide +kernel
theorem dX6_fewestOf_26 : decode cX6_fewestOf 26 = .ok (.invokestatic 147, 3) := by decide +kernel
theorem dX6_fewestOf_29 : decode cX6_fewestOf 29 = .ok (.if_icmp .gt 7, 3) := by decide +kernel
theorem dX6_fewestOf_32 : decode cX6_fewestOf 32 = .ok (.iconst 1, 1) := by decide +kernel
theorem dX6_fewestOf_33 : decode cX6_fewestOf 33 = .ok (.goto 4, 3) := by decide +kernel
theorem dX6_fewestOf_36 : decode cX6_fewestOf 36 = .ok (.iconst 0, 1) := by decide +kernel
theorem dX6_fewestOf_37 : decode cX6_fewestOf 37 = .ok (.istore 5, 2) := by decide +kernel
theorem dX6_fewestOf_39 : decode cX6_fewestOf 39 = .ok (.iload 4, 2) := by decide +kernel
theorem dX6_fewestOf_41 : decode cX6_fewestOf 41 = .ok (.iload_n 1, 1) := by decide +kernel
theorem dX6_fewestOf_42 : decode cX6_fewestOf 42 = .ok (.iconst (-1), 1) := by decide +kernel
theorem dX6_fewestOf_43 : decode cX6_fewestOf 43 = .ok (.ixor, 1) := by decide +kernel
theorem dX6_fewestOf_44 : decode cX6_fewestOf 44 = .ok (.iand, 1) := by decide +kernel
theorem dX6_fewestOf_45 : decode cX6_fewestOf 45 = .ok (.ifCond .ne 76, 3) := by decide +kernel
theorem dX6_fewestOf_48 : decode cX6_fewestOf 48 = .ok (.iload 5, 2) := by decide +kernel
theorem dX6_fewestOf_50 : decode cX6_fewestOf 50 = .ok (.ifCond .eq 71, 3) := by decide +kernel
theorem dX6_fewestOf_53 : decode cX6_fewestOf 53 = .ok (.aload_n 0, 1) := by decide +kernel
theorem dX6_fewestOf_54 : decode cX6_fewestOf 54 = .ok (.iload_n 1, 1) := by decide +kernel
theorem dX6_fewestOf_55 : decode cX6_fewestOf 55 = .ok (.iload 4, 2) := by decide +kernel
theorem dX6_fewestOf_57 : decode cX6_fewestOf 57 = .ok (.iconst (-1), 1) := by decide +kernel
theorem dX6_fewestOf_58 : decode cX6_fewestOf 58 = .ok (.ixor, 1) := by decide +kernel
theorem dX6_fewestOf_59 : decode cX6_fewestOf 59 = .ok (.iand, 1) := by decide +kernel
theorem dX6_fewestOf_60 : decode cX6_fewestOf 60 = .ok (.iload_n 2, 1) := by decide +kernel
theorem dX6_fewestOf_61 : decode cX6_fewestOf 61 = .ok (.ior, 1) := by decide +kernel
theorem dX6_fewestOf_62 : decode cX6_fewestOf 62 = .ok (.invokevirtual 122, 3) := by decide +kernel
theorem dX6_fewestOf_65 : decode cX6_fewestOf 65 = .ok (.ifCond .eq 56, 3) := by decide +kernel
theorem dX6_fewestOf_68 : decode cX6_fewestOf 68 = .ok (.aload_n 0, 1) := by decide +kernel
theorem dX6_fewestOf_69 : decode cX6_fewestOf 69 = .ok (.iload_n 3, 1) := by decide +kernel
theorem dX6_fewestOf_70 : decode cX6_fewestOf 70 = .ok (.ifCond .lt 15, 3) := by decide +kernel
theorem dX6_fewestOf_73 : decode cX6_fewestOf 73 = .ok (.iload 4, 2) := by decide +kernel
theorem dX6_fewestOf_75 : decode cX6_fewestOf 75 = .ok (.invokestatic 147, 3) := by decide +kernel
theorem dX6_fewestOf_78 : decode cX6_fewestOf 78 = .ok (.iload_n 3, 1) := by decide +kernel
theorem dX6_fewestOf_79 : decode cX6_fewestOf 79 = .ok (.invokestatic 147, 3) := by decide +kernel
theorem dX6_fewestOf_82 : decode cX6_fewestOf 82 = .ok (.if_icmp .ge 7, 3) := by decide +kernel
theorem dX6_fewestOf_85 : decode cX6_fewestOf 85 = .ok (.iconst 1, 1) := by decide +kernel
theorem dX6_fewestOf_86 : decode cX6_fewestOf 86 = .ok (.goto 9, 3) := by decide +kernel
theorem dX6_fewestOf_89 : decode cX6_fewestOf 89 = .ok (.aload_n 0, 1) := by decide +kernel
theorem dX6_fewestOf_90 : decode cX6_fewestOf 90 = .ok (.getfield 143, 3) := by decide +kernel
theorem dX6_fewestOf_93 : decode cX6_fewestOf 93 = .ok (.iconst 1, 1) := by decide +kernel
theorem dX6_fewestOf_94 : decode cX6_fewestOf 94 = .ok (.iadd, 1) := by decide +kernel
theorem dX6_fewestOf_95 : decode cX6_fewestOf 95 = .ok (.putfield 143, 3) := by decide +kernel
theorem dX6_fewestOf_98 : decode cX6_fewestOf 98 = .ok (.iload_n 3, 1) := by decide +kernel
theorem dX6_fewestOf_99 : decode cX6_fewestOf 99 = .ok (.ifCond .lt 15, 3) := by decide +kernel
theorem dX6_fewestOf_102 : decode cX6_fewestOf 102 = .ok (.iload 4, 2) := by decide +kernel
theorem dX6_fewestOf_104 : decode cX6_fewestOf 104 = .ok (.invokestatic 147, 3) := by decide +kernel
theorem dX6_fewestOf_107 : decode cX6_fewestOf 107 = .ok (.iload_n 3, 1) := by decide +kernel
theorem dX6_fewestOf_108 : decode cX6_fewestOf 108 = .ok (.invokestatic 147, 3) := by decide +kernel
theorem dX6_fewestOf_111 : decode cX6_fewestOf 111 = .ok (.if_icmp .ge 8, 3) := by decide +kernel
theorem dX6_fewestOf_114 : decode cX6_fewestOf 114 = .ok (.iload 4, 2) := by decide +kernel
theorem dX6_fewestOf_116 : decode cX6_fewestOf 116 = .ok (.goto 4, 3) := by decide +kernel
theorem dX6_fewestOf_119 : decode cX6_fewestOf 119 = .ok (.iload_n 3, 1) := by decide +kernel
theorem dX6_fewestOf_120 : decode cX6_fewestOf 120 = .ok (.istore_n 3, 1) := by decide +kernel
theorem dX6_fewestOf_121 : decode cX6_fewestOf 121 = .ok (.iinc 4 1, 3) := by decide +kernel
theorem dX6_fewestOf_124 : decode cX6_fewestOf 124 = .ok (.goto (-114), 3) := by decide +kernel
theorem dX6_fewestOf_127 : decode cX6_fewestOf 127 = .ok (.iload_n 3, 1) := by decide +kernel
theorem dX6_fewestOf_128 : decode cX6_fewestOf 128 = .ok (.ireturn, 1) := by decide +kernel
theorem dX6_strike_0 : decode cX6_strike 0 = .ok (.aload_n 0, 1) := by decide +kernel
theorem dX6_strike_1 : decode cX6_strike 1 = .ok (.aload_n 0, 1) := by decide +kernel
theorem dX6_strike_2 : decode cX6_strike 2 = .ok (.iconst 0, 1) := by decide +kernel
theorem dX6_strike_3 : decode cX6_strike 3 = .ok (.invokevirtual 96, 3) := by decide +kernel
theorem dX6_strike_6 : decode cX6_strike 6 = .ok (.iconst 0, 1) := by decide +kernel
theorem dX6_strike_7 : decode cX6_strike 7 = .ok (.invokevirtual 150, 3) := by decide +kernel
theorem dX6_strike_10 : decode cX6_strike 10 = .ok (.ireturn, 1) := by decide +kernel
theorem dX6_strikes_0 : decode cX6_strikes 0 = .ok (.aload_n 0, 1) := by decide +kernel
theorem dX6_strikes_1 : decode cX6_strikes 1 = .ok (.aload_n 0, 1) := by decide +kernel
theorem dX6_strikes_2 : decode cX6_strikes 2 = .ok (.iconst 0, 1) := by decide +kernel
theorem dX6_strikes_3 : decode cX6_strikes 3 = .ok (.invokevirtual 96, 3) := by decide +kernel
theorem dX6_strikes_6 : decode cX6_strikes 6 = .ok (.iconst 0, 1) := by decide +kernel
theorem dX6_strikes_7 : decode cX6_strikes 7 = .ok (.invokevirtual 150, 3) := by decide +kernel
theorem dX6_strikes_10 : decode cX6_strikes 10 = .ok (.istore_n 1, 1) := by decide +kernel
theorem dX6_strikes_11 : decode cX6_strikes 11 = .ok (.iload_n 1, 1) := by decide +kernel
theorem dX6_strikes_12 : decode cX6_strikes 12 = .ok (.ifCond .ge 7, 3) := by decide +kernel
theorem dX6_strikes_15 : decode cX6_strikes 15 = .ok (.iconst 0, 1) := by decide +kernel
theorem dX6_strikes_16 : decode cX6_strikes 16 = .ok (.goto 7, 3) := by decide +kernel
theorem dX6_strikes_19 : decode cX6_strikes 19 = .ok (.aload_n 0, 1) := by decide +kernel
theorem dX6_strikes_20 : decode cX6_strikes 20 = .ok (.getfield 143, 3) := by decide +kernel
theorem dX6_strikes_23 : decode cX6_strikes 23 = .ok (.ireturn, 1) := by decide +kernel
theorem dX6_implied_0 : decode cX6_implied 0 = .ok (.aload_n 0, 1) := by decide +kernel
theorem dX6_implied_1 : decode cX6_implied 1 = .ok (.iconst 0, 1) := by decide +kernel
theorem dX6_implied_2 : decode cX6_implied 2 = .ok (.invokevirtual 96, 3) := by decide +kernel
theorem dX6_implied_5 : decode cX6_implied 5 = .ok (.istore_n 1, 1) := by decide +kernel
theorem dX6_implied_6 : decode cX6_implied 6 = .ok (.aload_n 0, 1) := by decide +kernel
theorem dX6_implied_7 : decode cX6_implied 7 = .ok (.iload_n 1, 1) := by decide +kernel
theorem dX6_implied_8 : decode cX6_implied 8 = .ok (.invokevirtual 122, 3) := by decide +kernel
theorem dX6_implied_11 : decode cX6_implied 11 = .ok (.ifCond .ne 10, 3) := by decide +kernel
theorem dX6_implied_14 : decode cX6_implied 14 = .ok (.aload_n 0, 1) := by decide +kernel
theorem dX6_implied_15 : decode cX6_implied 15 = .ok (.ldc 46, 2) := by decide +kernel
theorem dX6_implied_17 : decode cX6_implied 17 = .ok (.invokevirtual 47, 3) := by decide +kernel
theorem dX6_implied_20 : decode cX6_implied 20 = .ok (.ireturn, 1) := by decide +kernel
theorem dX6_implied_21 : decode cX6_implied 21 = .ok (.iconst 0, 1) := by decide +kernel
theorem dX6_implied_22 : decode cX6_implied 22 = .ok (.istore_n 2, 1) := by decide +kernel
theorem dX6_implied_23 : decode cX6_implied 23 = .ok (.iconst 0, 1) := by decide +kernel
theorem dX6_implied_24 : decode cX6_implied 24 = .ok (.istore_n 3, 1) := by decide +kernel
theorem dX6_implied_25 : decode cX6_implied 25 = .ok (.iload_n 3, 1) := by decide +kernel
theorem dX6_implied_26 : decode cX6_implied 26 = .ok (.aload_n 0, 1) := by decide +kernel
theorem dX6_implied_27 : decode cX6_implied 27 = .ok (.getfield 7, 3) := by decide +kernel
theorem dX6_implied_30 : decode cX6_implied 30 = .ok (.iconst 0, 1) := by decide +kernel
theorem dX6_implied_31 : decode cX6_implied 31 = .ok (.iaload, 1) := by decide +kernel
theorem dX6_implied_32 : decode cX6_implied 32 = .ok (.if_icmp .ge 109, 3) := by decide +kernel
theorem dX6_implied_35 : decode cX6_implied 35 = .ok (.iload_n 1, 1) := by decide +kernel
theorem dX6_implied_36 : decode cX6_implied 36 = .ok (.iload_n 3, 1) := by decide +kernel
theorem dX6_implied_37 : decode cX6_implied 37 = .ok (.ishr, 1) := by decide +kernel
theorem dX6_implied_38 : decode cX6_implied 38 = .ok (.iconst 1, 1) := by decide +kernel
theorem dX6_implied_39 : decode cX6_implied 39 = .ok (.iand, 1) := by decide +kernel
theorem dX6_implied_40 : decode cX6_implied 40 = .ok (.iconst 1, 1) := by decide +kernel
theorem dX6_implied_41 : decode cX6_implied 41 = .ok (.if_icmp .ne 94, 3) := by decide +kernel
theorem dX6_implied_44 : decode cX6_implied 44 = .ok (.aload_n 0, 1) := by decide +kernel
theorem dX6_implied_45 : decode cX6_implied 45 = .ok (.iload_n 1, 1) := by decide +kernel
theorem dX6_implied_46 : decode cX6_implied 46 = .ok (.iconst 1, 1) := by decide +kernel
theorem dX6_implied_47 : decode cX6_implied 47 = .ok (.iload_n 3, 1) := by decide +kernel
theorem dX6_implied_48 : decode cX6_implied 48 = .ok (.ishl, 1) := by decide +kernel
theorem dX6_implied_49 : decode cX6_implied 49 = .ok (.iconst (-1), 1) := by decide +kernel
theorem dX6_implied_50 : decode cX6_implied 50 = .ok (.ixor, 1) := by decide +kernel
theorem dX6_implied_51 : decode cX6_implied 51 = .ok (.iand, 1) := by decide +kernel
theorem dX6_implied_52 : decode cX6_implied 52 = .ok (.invokevirtual 122, 3) := by decide +kernel
theorem dX6_implied_55 : decode cX6_implied 55 = .ok (.ifCond .eq 80, 3) := by decide +kernel
theorem dX6_implied_58 : decode cX6_implied 58 = .ok (.bipush 8, 2) := by decide +kernel
theorem dX6_implied_60 : decode cX6_implied 60 = .ok (.aload_n 0, 1) := by decide +kernel
theorem dX6_implied_61 : decode cX6_implied 61 = .ok (.iload_n 3, 1) := by decide +kernel
theorem dX6_implied_62 : decode cX6_implied 62 = .ok (.iconst 1, 1) := by decide +kernel
theorem dX6_implied_63 : decode cX6_implied 63 = .ok (.invokevirtual 51, 3) := by decide +kernel
theorem dX6_implied_66 : decode cX6_implied 66 = .ok (.imul, 1) := by decide +kernel
theorem dX6_implied_67 : decode cX6_implied 67 = .ok (.aload_n 0, 1) := by decide +kernel
theorem dX6_implied_68 : decode cX6_implied 68 = .ok (.iload_n 3, 1) := by decide +kernel
theorem dX6_implied_69 : decode cX6_implied 69 = .ok (.iconst 2, 1) := by decide +kernel
theorem dX6_implied_70 : decode cX6_implied 70 = .ok (.invokevirtual 51, 3) := by decide +kernel
theorem dX6_implied_73 : decode cX6_implied 73 = .ok (.iadd, 1) := by decide +kernel
theorem dX6_implied_74 : decode cX6_implied 74 = .ok (.istore 4, 2) := by decide +kernel
theorem dX6_implied_76 : decode cX6_implied 76 = .ok (.bipush 8, 2) := by decide +kernel
theorem dX6_implied_78 : decode cX6_implied 78 = .ok (.aload_n 0, 1) := by decide +kernel
theorem dX6_implied_79 : decode cX6_implied 79 = .ok (.iload_n 3, 1) := by decide +kernel
theorem dX6_implied_80 : decode cX6_implied 80 = .ok (.iconst 2, 1) := by decide +kernel
theorem dX6_implied_81 : decode cX6_implied 81 = .ok (.invokevirtual 51, 3) := by decide +kernel
theorem dX6_implied_84 : decode cX6_implied 84 = .ok (.imul, 1) := by decide +kernel
theorem dX6_implied_85 : decode cX6_implied 85 = .ok (.aload_n 0, 1) := by decide +kernel
theorem dX6_implied_86 : decode cX6_implied 86 = .ok (.iload_n 3, 1) := by decide +kernel
theorem dX6_implied_87 : decode cX6_implied 87 = .ok (.iconst 1, 1) := by decide +kernel
theorem dX6_implied_88 : decode cX6_implied 88 = .ok (.invokevirtual 51, 3) := by decide +kernel
theorem dX6_implied_91 : decode cX6_implied 91 = .ok (.iadd, 1) := by decide +kernel
theorem dX6_implied_92 : decode cX6_implied 92 = .ok (.istore 5, 2) := by decide +kernel
theorem dX6_implied_94 : decode cX6_implied 94 = .ok (.iload_n 2, 1) := by decide +kernel
theorem dX6_implied_95 : decode cX6_implied 95 = .ok (.aload_n 0, 1) := by decide +kernel
theorem dX6_implied_96 : decode cX6_implied 96 = .ok (.getfield 34, 3) := by decide +kernel
theorem dX6_implied_99 : decode cX6_implied 99 = .ok (.iload 4, 2) := by decide +kernel
theorem dX6_implied_101 : decode cX6_implied 101 = .ok (.iaload, 1) := by decide +kernel
theorem dX6_implied_102 : decode cX6_implied 102 = .ok (.aload_n 0, 1) := by decide +kernel
theorem dX6_implied_103 : decode cX6_implied 103 = .ok (.iload_n 3, 1) := by decide +kernel
theorem dX6_implied_104 : decode cX6_implied 104 = .ok (.invokevirtual 93, 3) := by decide +kernel
theorem dX6_implied_107 : decode cX6_implied 107 = .ok (.if_icmp .gt 25, 3) := by decide +kernel
theorem dX6_implied_110 : decode cX6_implied 110 = .ok (.aload_n 0, 1) := by decide +kernel
theorem dX6_implied_111 : decode cX6_implied 111 = .ok (.getfield 34, 3) := by decide +kernel
theorem dX6_implied_114 : decode cX6_implied 114 = .ok (.iload 5, 2) := by decide +kernel
theorem dX6_implied_116 : decode cX6_implied 116 = .ok (.iaload, 1) := by decide +kernel
theorem dX6_implied_117 : decode cX6_implied 117 = .ok (.ineg, 1) := by decide +kernel
theorem dX6_implied_118 : decode cX6_implied 118 = .ok (.aload_n 0, 1) := by decide +kernel
theorem dX6_implied_119 : decode cX6_implied 119 = .ok (.iload_n 3, 1) := by decide +kernel
theorem dX6_implied_120 : decode cX6_implied 120 = .ok (.invokevirtual 90, 3) := by decide +kernel
theorem dX6_implied_123 : decode cX6_implied 123 = .ok (.if_icmp .lt 9, 3) := by decide +kernel
theorem dX6_implied_126 : decode cX6_implied 126 = .ok (.iconst 1, 1) := by decide +kernel
theorem dX6_implied_127 : decode cX6_implied 127 = .ok (.iload_n 3, 1) := by decide +kernel
theorem dX6_implied_128 : decode cX6_implied 128 = .ok (.ishl, 1) := by decide +kernel
theorem dX6_implied_129 : decode cX6_implied 129 = .ok (.goto 4, 3) := by decide +kernel
theorem dX6_implied_132 : decode cX6_implied 132 = .ok (.iconst 0, 1) := by decide +kernel
theorem dX6_implied_133 : decode cX6_implied 133 = .ok (.ior, 1) := by decide +kernel
theorem dX6_implied_134 : decode cX6_implied 134 = .ok (.istore_n 2, 1) := by decide +kernel
theorem dX6_implied_135 : decode cX6_implied 135 = .ok (.iinc 3 1, 3) := by decide +kernel
theorem dX6_implied_138 : decode cX6_implied 138 = .ok (.goto (-113), 3) := by decide +kernel
theorem dX6_implied_141 : decode cX6_implied 141 = .ok (.iload_n 2, 1) := by decide +kernel
theorem dX6_implied_142 : decode cX6_implied 142 = .ok (.ireturn, 1) := by decide +kernel
theorem dX6_suspects_0 : decode cX6_suspects 0 = .ok (.aload_n 0, 1) := by decide +kernel
theorem dX6_suspects_1 : decode cX6_suspects 1 = .ok (.iconst 0, 1) := by decide +kernel
theorem dX6_suspects_2 : decode cX6_suspects 2 = .ok (.invokevirtual 96, 3) := by decide +kernel
theorem dX6_suspects_5 : decode cX6_suspects 5 = .ok (.istore_n 1, 1) := by decide +kernel
theorem dX6_suspects_6 : decode cX6_suspects 6 = .ok (.iconst 0, 1) := by decide +kernel
theorem dX6_suspects_7 : decode cX6_suspects 7 = .ok (.istore_n 2, 1) := by decide +kernel
theorem dX6_suspects_8 : decode cX6_suspects 8 = .ok (.iconst 0, 1) := by decide +kernel
theorem dX6_suspects_9 : decode cX6_suspects 9 = .ok (.istore_n 3, 1) := by decide +kernel
theorem dX6_suspects_10 : decode cX6_suspects 10 = .ok (.iload_n 3, 1) := by decide +kernel
theorem dX6_suspects_11 : decode cX6_suspects 11 = .ok (.aload_n 0, 1) := by decide +kernel
theorem dX6_suspects_12 : decode cX6_suspects 12 = .ok (.getfield 7, 3) := by decide +kernel
theorem dX6_suspects_15 : decode cX6_suspects 15 = .ok (.iconst 0, 1) := by decide +kernel
theorem dX6_suspects_16 : decode cX6_suspects 16 = .ok (.iaload, 1) := by decide +kernel
theorem dX6_suspects_17 : decode cX6_suspects 17 = .ok (.if_icmp .ge 42, 3) := by decide +kernel
theorem dX6_suspects_20 : decode cX6_suspects 20 = .ok (.iload_n 2, 1) := by decide +kernel
theorem dX6_suspects_21 : decode cX6_suspects 21 = .ok (.iload_n 1, 1) := by decide +kernel
theorem dX6_suspects_22 : decode cX6_suspects 22 = .ok (.iload_n 3, 1) := by decide +kernel
theorem dX6_suspects_23 : decode cX6_suspects 23 = .ok (.ishr, 1) := by decide +kernel
theorem dX6_suspects_24 : decode cX6_suspects 24 = .ok (.iconst 1, 1) := by decide +kernel
theorem dX6_suspects_25 : decode cX6_suspects 25 = .ok (.iand, 1) := by decide +kernel
theorem dX6_suspects_26 : decode cX6_suspects 26 = .ok (.iconst 1, 1) := by decide +kernel
theorem dX6_suspects_27 : decode cX6_suspects 27 = .ok (.if_icmp .ne 23, 3) := by decide +kernel
theorem dX6_suspects_30 : decode cX6_suspects 30 = .ok (.aload_n 0, 1) := by decide +kernel
theorem dX6_suspects_31 : decode cX6_suspects 31 = .ok (.iload_n 1, 1) := by decide +kernel
theorem dX6_suspects_32 : decode cX6_suspects 32 = .ok (.iconst 1, 1) := by decide +kernel
theorem dX6_suspects_33 : decode cX6_suspects 33 = .ok (.iload_n 3, 1) := by decide +kernel
theorem dX6_suspects_34 : decode cX6_suspects 34 = .ok (.ishl, 1) := by decide +kernel
theorem dX6_suspects_35 : decode cX6_suspects 35 = .ok (.iconst (-1), 1) := by decide +kernel
theorem dX6_suspects_36 : decode cX6_suspects 36 = .ok (.ixor, 1) := by decide +kernel
theorem dX6_suspects_37 : decode cX6_suspects 37 = .ok (.iand, 1) := by decide +kernel
theorem dX6_suspects_38 : decode cX6_suspects 38 = .ok (.invokevirtual 122, 3) := by decide +kernel
theorem dX6_suspects_41 : decode cX6_suspects 41 = .ok (.ifCond .eq 9, 3) := by decide +kernel
theorem dX6_suspects_44 : decode cX6_suspects 44 = .ok (.iconst 1, 1) := by decide +kernel
theorem dX6_suspects_45 : decode cX6_suspects 45 = .ok (.iload_n 3, 1) := by decide +kernel
theorem dX6_suspects_46 : decode cX6_suspects 46 = .ok (.ishl, 1) := by decide +kernel
theorem dX6_suspects_47 : decode cX6_suspects 47 = .ok (.goto 4, 3) := by decide +kernel
theorem dX6_suspects_50 : decode cX6_suspects 50 = .ok (.iconst 0, 1) := by decide +kernel
theorem dX6_suspects_51 : decode cX6_suspects 51 = .ok (.ior, 1) := by decide +kernel
theorem dX6_suspects_52 : decode cX6_suspects 52 = .ok (.istore_n 2, 1) := by decide +kernel
theorem dX6_suspects_53 : decode cX6_suspects 53 = .ok (.iinc 3 1, 3) := by decide +kernel
theorem dX6_suspects_56 : decode cX6_suspects 56 = .ok (.goto (-46), 3) := by decide +kernel
theorem dX6_suspects_59 : decode cX6_suspects 59 = .ok (.iload_n 2, 1) := by decide +kernel
theorem dX6_suspects_60 : decode cX6_suspects 60 = .ok (.ireturn, 1) := by decide +kernel
theorem dX6_dearest_0 : decode cX6_dearest 0 = .ok (.aload_n 0, 1) := by decide +kernel
theorem dX6_dearest_1 : decode cX6_dearest 1 = .ok (.iconst 0, 1) := by decide +kernel
theorem dX6_dearest_2 : decode cX6_dearest 2 = .ok (.invokevirtual 96, 3) := by decide +kernel
theorem dX6_dearest_5 : decode cX6_dearest 5 = .ok (.istore_n 1, 1) := by decide +kernel
theorem dX6_dearest_6 : decode cX6_dearest 6 = .ok (.aload_n 0, 1) := by decide +kernel
theorem dX6_dearest_7 : decode cX6_dearest 7 = .ok (.iload_n 1, 1) := by decide +kernel
theorem dX6_dearest_8 : decode cX6_dearest 8 = .ok (.invokevirtual 122, 3) := by decide +kernel
theorem dX6_dearest_11 : decode cX6_dearest 11 = .ok (.ifCond .ne 10, 3) := by decide +kernel
theorem dX6_dearest_14 : decode cX6_dearest 14 = .ok (.aload_n 0, 1) := by decide +kernel
theorem dX6_dearest_15 : decode cX6_dearest 15 = .ok (.ldc 46, 2) := by decide +kernel
theorem dX6_dearest_17 : decode cX6_dearest 17 = .ok (.invokevirtual 47, 3) := by decide +kernel
theorem dX6_dearest_20 : decode cX6_dearest 20 = .ok (.ireturn, 1) := by decide +kernel
theorem dX6_dearest_21 : decode cX6_dearest 21 = .ok (.iconst (-1), 1) := by decide +kernel
theorem dX6_dearest_22 : decode cX6_dearest 22 = .ok (.istore_n 2, 1) := by decide +kernel
theorem dX6_dearest_23 : decode cX6_dearest 23 = .ok (.iconst (-1), 1) := by decide +kernel
theorem dX6_dearest_24 : decode cX6_dearest 24 = .ok (.istore_n 3, 1) := by decide +kernel
theorem dX6_dearest_25 : decode cX6_dearest 25 = .ok (.iconst 0, 1) := by decide +kernel
theorem dX6_dearest_26 : decode cX6_dearest 26 = .ok (.istore 4, 2) := by decide +kernel
theorem dX6_dearest_28 : decode cX6_dearest 28 = .ok (.iload 4, 2) := by decide +kernel
theorem dX6_dearest_30 : decode cX6_dearest 30 = .ok (.aload_n 0, 1) := by decide +kernel
theorem dX6_dearest_31 : decode cX6_dearest 31 = .ok (.getfield 7, 3) := by decide +kernel
theorem dX6_dearest_34 : decode cX6_dearest 34 = .ok (.iconst 0, 1) := by decide +kernel
theorem dX6_dearest_35 : decode cX6_dearest 35 = .ok (.iaload, 1) := by decide +kernel
theorem dX6_dearest_36 : decode cX6_dearest 36 = .ok (.if_icmp .ge 82, 3) := by decide +kernel
theorem dX6_dearest_39 : decode cX6_dearest 39 = .ok (.iload_n 1, 1) := by decide +kernel
theorem dX6_dearest_40 : decode cX6_dearest 40 = .ok (.iload 4, 2) := by decide +kernel
theorem dX6_dearest_42 : decode cX6_dearest 42 = .ok (.ishr, 1) := by decide +kernel
theorem dX6_dearest_43 : decode cX6_dearest 43 = .ok (.iconst 1, 1) := by decide +kernel
theorem dX6_dearest_44 : decode cX6_dearest 44 = .ok (.iand, 1) := by decide +kernel
theorem dX6_dearest_45 : decode cX6_dearest 45 = .ok (.iconst 1, 1) := by decide +kernel
theorem dX6_dearest_46 : decode cX6_dearest 46 = .ok (.if_icmp .ne 22, 3) := by decide +kernel
theorem dX6_dearest_49 : decode cX6_dearest 49 = .ok (.aload_n 0, 1) := by decide +kernel
theorem dX6_dearest_50 : decode cX6_dearest 50 = .ok (.iload_n 1, 1) := by decide +kernel
theorem dX6_dearest_51 : decode cX6_dearest 51 = .ok (.iconst 1, 1) := by decide +kernel
theorem dX6_dearest_52 : decode cX6_dearest 52 = .ok (.iload 4, 2) := by decide +kernel
theorem dX6_dearest_54 : decode cX6_dearest 54 = .ok (.ishl, 1) := by decide +kernel
theorem dX6_dearest_55 : decode cX6_dearest 55 = .ok (.iconst (-1), 1) := by decide +kernel
theorem dX6_dearest_56 : decode cX6_dearest 56 = .ok (.ixor, 1) := by decide +kernel
theorem dX6_dearest_57 : decode cX6_dearest 57 = .ok (.iand, 1) := by decide +kernel
theorem dX6_dearest_58 : decode cX6_dearest 58 = .ok (.invokevirtual 122, 3) := by decide +kernel
theorem dX6_dearest_61 : decode cX6_dearest 61 = .ok (.ifCond .eq 7, 3) := by decide +kernel
theorem dX6_dearest_64 : decode cX6_dearest 64 = .ok (.iconst 1, 1) := by decide +kernel
theorem dX6_dearest_65 : decode cX6_dearest 65 = .ok (.goto 4, 3) := by decide +kernel
theorem dX6_dearest_68 : decode cX6_dearest 68 = .ok (.iconst 0, 1) := by decide +kernel
theorem dX6_dearest_69 : decode cX6_dearest 69 = .ok (.istore 5, 2) := by decide +kernel
theorem dX6_dearest_71 : decode cX6_dearest 71 = .ok (.iload 5, 2) := by decide +kernel
theorem dX6_dearest_73 : decode cX6_dearest 73 = .ok (.ifCond .eq 10, 3) := by decide +kernel
theorem dX6_dearest_76 : decode cX6_dearest 76 = .ok (.aload_n 0, 1) := by decide +kernel
theorem dX6_dearest_77 : decode cX6_dearest 77 = .ok (.invokevirtual 133, 3) := by decide +kernel
theorem dX6_dearest_80 : decode cX6_dearest 80 = .ok (.goto 4, 3) := by decide +kernel
theorem dX6_dearest_83 : decode cX6_dearest 83 = .ok (.iconst (-1), 1) := by decide +kernel
theorem dX6_dearest_84 : decode cX6_dearest 84 = .ok (.istore 6, 2) := by decide +kernel
theorem dX6_dearest_86 : decode cX6_dearest 86 = .ok (.iload 6, 2) := by decide +kernel
theorem dX6_dearest_88 : decode cX6_dearest 88 = .ok (.iload_n 3, 1) := by decide +kernel
theorem dX6_dearest_89 : decode cX6_dearest 89 = .ok (.if_icmp .le 8, 3) := by decide +kernel
theorem dX6_dearest_92 : decode cX6_dearest 92 = .ok (.iload 4, 2) := by decide +kernel
theorem dX6_dearest_94 : decode cX6_dearest 94 = .ok (.goto 4, 3) := by decide +kernel
theorem dX6_dearest_97 : decode cX6_dearest 97 = .ok (.iload_n 2, 1) := by decide +kernel
theorem dX6_dearest_98 : decode cX6_dearest 98 = .ok (.istore_n 2, 1) := by decide +kernel
theorem dX6_dearest_99 : decode cX6_dearest 99 = .ok (.iload 6, 2) := by decide +kernel
theorem dX6_dearest_101 : decode cX6_dearest 101 = .ok (.iload_n 3, 1) := by decide +kernel
theorem dX6_dearest_102 : decode cX6_dearest 102 = .ok (.if_icmp .le 8, 3) := by decide +kernel
theorem dX6_dearest_105 : decode cX6_dearest 105 = .ok (.iload 6, 2) := by decide +kernel
theorem dX6_dearest_107 : decode cX6_dearest 107 = .ok (.goto 4, 3) := by decide +kernel
theorem dX6_dearest_110 : decode cX6_dearest 110 = .ok (.iload_n 3, 1) := by decide +kernel
theorem dX6_dearest_111 : decode cX6_dearest 111 = .ok (.istore_n 3, 1) := by decide +kernel
theorem dX6_dearest_112 : decode cX6_dearest 112 = .ok (.iinc 4 1, 3) := by decide +kernel
theorem dX6_dearest_115 : decode cX6_dearest 115 = .ok (.goto (-87), 3) := by decide +kernel
theorem dX6_dearest_118 : decode cX6_dearest 118 = .ok (.aload_n 0, 1) := by decide +kernel
theorem dX6_dearest_119 : decode cX6_dearest 119 = .ok (.iload_n 2, 1) := by decide +kernel
theorem dX6_dearest_120 : decode cX6_dearest 120 = .ok (.invokevirtual 153, 3) := by decide +kernel
theorem dX6_dearest_123 : decode cX6_dearest 123 = .ok (.ireturn, 1) := by decide +kernel
theorem dX6_merge_0 : decode cX6_merge 0 = .ok (.aload_n 0, 1) := by decide +kernel
theorem dX6_merge_1 : decode cX6_merge 1 = .ok (.iload_n 1, 1) := by decide +kernel
theorem dX6_merge_2 : decode cX6_merge 2 = .ok (.invokevirtual 140, 3) := by decide +kernel
theorem dX6_merge_5 : decode cX6_merge 5 = .ok (.ifCond .eq 11, 3) := by decide +kernel
theorem dX6_merge_8 : decode cX6_merge 8 = .ok (.aload_n 0, 1) := by decide +kernel
theorem dX6_merge_9 : decode cX6_merge 9 = .ok (.iload_n 2, 1) := by decide +kernel
theorem dX6_merge_10 : decode cX6_merge 10 = .ok (.invokevirtual 140, 3) := by decide +kernel
theorem dX6_merge_13 : decode cX6_merge 13 = .ok (.ifCond .ne 10, 3) := by decide +kernel
theorem dX6_merge_16 : decode cX6_merge 16 = .ok (.aload_n 0, 1) := by decide +kernel
theorem dX6_merge_17 : decode cX6_merge 17 = .ok (.ldc 37, 2) := by decide +kernel
theorem dX6_merge_19 : decode cX6_merge 19 = .ok (.invokevirtual 47, 3) := by decide +kernel
theorem dX6_merge_22 : decode cX6_merge 22 = .ok (.ireturn, 1) := by decide +kernel
theorem dX6_merge_23 : decode cX6_merge 23 = .ok (.aload_n 0, 1) := by decide +kernel
theorem dX6_merge_24 : decode cX6_merge 24 = .ok (.iload_n 1, 1) := by decide +kernel
theorem dX6_merge_25 : decode cX6_merge 25 = .ok (.invokevirtual 122, 3) := by decide +kernel
theorem dX6_merge_28 : decode cX6_merge 28 = .ok (.ifCond .eq 16, 3) := by decide +kernel
theorem dX6_merge_31 : decode cX6_merge 31 = .ok (.aload_n 0, 1) := by decide +kernel
theorem dX6_merge_32 : decode cX6_merge 32 = .ok (.iload_n 2, 1) := by decide +kernel
theorem dX6_merge_33 : decode cX6_merge 33 = .ok (.iload_n 1, 1) := by decide +kernel
theorem dX6_merge_34 : decode cX6_merge 34 = .ok (.iconst (-1), 1) := by decide +kernel
theorem dX6_merge_35 : decode cX6_merge 35 = .ok (.ixor, 1) := by decide +kernel
theorem dX6_merge_36 : decode cX6_merge 36 = .ok (.iand, 1) := by decide +kernel
theorem dX6_merge_37 : decode cX6_merge 37 = .ok (.iload_n 1, 1) := by decide +kernel
theorem dX6_merge_38 : decode cX6_merge 38 = .ok (.invokevirtual 150, 3) := by decide +kernel
theorem dX6_merge_41 : decode cX6_merge 41 = .ok (.goto 9, 3) := by decide +kernel
theorem dX6_merge_44 : decode cX6_merge 44 = .ok (.aload_n 0, 1) := by decide +kernel
theorem dX6_merge_45 : decode cX6_merge 45 = .ok (.ldc 46, 2) := by decide +kernel
theorem dX6_merge_47 : decode cX6_merge 47 = .ok (.invokevirtual 47, 3) := by decide +kernel
theorem dX6_merge_50 : decode cX6_merge 50 = .ok (.ireturn, 1) := by decide +kernel
theorem dX6_kinds_0 : decode cX6_kinds 0 = .ok (.aload_n 0, 1) := by decide +kernel
theorem dX6_kinds_1 : decode cX6_kinds 1 = .ok (.iload_n 1, 1) := by decide +kernel
theorem dX6_kinds_2 : decode cX6_kinds 2 = .ok (.invokevirtual 85, 3) := by decide +kernel
theorem dX6_kinds_5 : decode cX6_kinds 5 = .ok (.ifCond .ne 10, 3) := by decide +kernel
theorem dX6_kinds_8 : decode cX6_kinds 8 = .ok (.aload_n 0, 1) := by decide +kernel
theorem dX6_kinds_9 : decode cX6_kinds 9 = .ok (.ldc 37, 2) := by decide +kernel
theorem dX6_kinds_11 : decode cX6_kinds 11 = .ok (.invokevirtual 47, 3) := by decide +kernel
theorem dX6_kinds_14 : decode cX6_kinds 14 = .ok (.ireturn, 1) := by decide +kernel
theorem dX6_kinds_15 : decode cX6_kinds 15 = .ok (.iconst 5, 1) := by decide +kernel
theorem dX6_kinds_16 : decode cX6_kinds 16 = .ok (.bipush 6, 2) := by decide +kernel
theorem dX6_kinds_18 : decode cX6_kinds 18 = .ok (.iload_n 1, 1) := by decide +kernel
theorem dX6_kinds_19 : decode cX6_kinds 19 = .ok (.imul, 1) := by decide +kernel
theorem dX6_kinds_20 : decode cX6_kinds 20 = .ok (.iadd, 1) := by decide +kernel
theorem dX6_kinds_21 : decode cX6_kinds 21 = .ok (.istore_n 2, 1) := by decide +kernel
theorem dX6_kinds_22 : decode cX6_kinds 22 = .ok (.aload_n 0, 1) := by decide +kernel
theorem dX6_kinds_23 : decode cX6_kinds 23 = .ok (.getfield 7, 3) := by decide +kernel
theorem dX6_kinds_26 : decode cX6_kinds 26 = .ok (.iload_n 2, 1) := by decide +kernel
theorem dX6_kinds_27 : decode cX6_kinds 27 = .ok (.iaload, 1) := by decide +kernel
theorem dX6_kinds_28 : decode cX6_kinds 28 = .ok (.istore_n 3, 1) := by decide +kernel
theorem dX6_kinds_29 : decode cX6_kinds 29 = .ok (.iconst 0, 1) := by decide +kernel
theorem dX6_kinds_30 : decode cX6_kinds 30 = .ok (.istore 4, 2) := by decide +kernel
theorem dX6_kinds_32 : decode cX6_kinds 32 = .ok (.iconst 0, 1) := by decide +kernel
theorem dX6_kinds_33 : decode cX6_kinds 33 = .ok (.istore 5, 2) := by decide +kernel
theorem dX6_kinds_35 : decode cX6_kinds 35 = .ok (.iload 5, 2) := by decide +kernel
theorem dX6_kinds_37 : decode cX6_kinds 37 = .ok (.bipush 6, 2) := by decide +kernel
theorem dX6_kinds_39 : decode cX6_kinds 39 = .ok (.if_icmp .gt 37, 3) := by decide +kernel
theorem dX6_kinds_42 : decode cX6_kinds 42 = .ok (.aload_n 0, 1) := by decide +kernel
theorem dX6_kinds_43 : decode cX6_kinds 43 = .ok (.getfield 7, 3) := by decide +kernel
theorem dX6_kinds_46 : decode cX6_kinds 46 = .ok (.iload_n 2, 1) := by decide +kernel
theorem dX6_kinds_47 : decode cX6_kinds 47 = .ok (.iload 5, 2) := by decide +kernel
theorem dX6_kinds_49 : decode cX6_kinds 49 = .ok (.iastore, 1) := by decide +kernel
theorem dX6_kinds_50 : decode cX6_kinds 50 = .ok (.iload 4, 2) := by decide +kernel
theorem dX6_kinds_52 : decode cX6_kinds 52 = .ok (.aload_n 0, 1) := by decide +kernel
theorem dX6_kinds_53 : decode cX6_kinds 53 = .ok (.invokevirtual 128, 3) := by decide +kernel
theorem dX6_kinds_56 : decode cX6_kinds 56 = .ok (.ifCond .eq 10, 3) := by decide +kernel
theorem dX6_kinds_59 : decode cX6_kinds 59 = .ok (.iconst 1, 1) := by decide +kernel
theorem dX6_kinds_60 : decode cX6_kinds 60 = .ok (.iload 5, 2) := by decide +kernel
theorem dX6_kinds_62 : decode cX6_kinds 62 = .ok (.ishl, 1) := by decide +kernel
theorem dX6_kinds_63 : decode cX6_kinds 63 = .ok (.goto 4, 3) := by decide +kernel
theorem dX6_kinds_66 : decode cX6_kinds 66 = .ok (.iconst 0, 1) := by decide +kernel
theorem dX6_kinds_67 : decode cX6_kinds 67 = .ok (.ior, 1) := by decide +kernel
theorem dX6_kinds_68 : decode cX6_kinds 68 = .ok (.istore 4, 2) := by decide +kernel
theorem dX6_kinds_70 : decode cX6_kinds 70 = .ok (.iinc 5 1, 3) := by decide +kernel
theorem dX6_kinds_73 : decode cX6_kinds 73 = .ok (.goto (-38), 3) := by decide +kernel
theorem dX6_kinds_76 : decode cX6_kinds 76 = .ok (.aload_n 0, 1) := by decide +kernel
theorem dX6_kinds_77 : decode cX6_kinds 77 = .ok (.getfield 7, 3) := by decide +kernel
theorem dX6_kinds_80 : decode cX6_kinds 80 = .ok (.iload_n 2, 1) := by decide +kernel
theorem dX6_kinds_81 : decode cX6_kinds 81 = .ok (.iload_n 3, 1) := by decide +kernel
theorem dX6_kinds_82 : decode cX6_kinds 82 = .ok (.iastore, 1) := by decide +kernel
theorem dX6_kinds_83 : decode cX6_kinds 83 = .ok (.iload 4, 2) := by decide +kernel
theorem dX6_kinds_85 : decode cX6_kinds 85 = .ok (.ireturn, 1) := by decide +kernel
theorem dX6_days_0 : decode cX6_days 0 = .ok (.aload_n 0, 1) := by decide +kernel
theorem dX6_days_1 : decode cX6_days 1 = .ok (.iload_n 1, 1) := by decide +kernel
theorem dX6_days_2 : decode cX6_days 2 = .ok (.invokevirtual 85, 3) := by decide +kernel
theorem dX6_days_5 : decode cX6_days 5 = .ok (.ifCond .ne 10, 3) := by decide +kernel
theorem dX6_days_8 : decode cX6_days 8 = .ok (.aload_n 0, 1) := by decide +kernel
theorem dX6_days_9 : decode cX6_days 9 = .ok (.ldc 37, 2) := by decide +kernel
theorem dX6_days_11 : decode cX6_days 11 = .ok (.invokevirtual 47, 3) := by decide +kernel
theorem dX6_days_14 : decode cX6_days 14 = .ok (.ireturn, 1) := by decide +kernel
theorem dX6_days_15 : decode cX6_days 15 = .ok (.iconst 5, 1) := by decide +kernel
theorem dX6_days_16 : decode cX6_days 16 = .ok (.bipush 6, 2) := by decide +kernel
theorem dX6_days_18 : decode cX6_days 18 = .ok (.iload_n 1, 1) := by decide +kernel
theorem dX6_days_19 : decode cX6_days 19 = .ok (.imul, 1) := by decide +kernel
theorem dX6_days_20 : decode cX6_days 20 = .ok (.iadd, 1) := by decide +kernel
theorem dX6_days_21 : decode cX6_days 21 = .ok (.iconst 3, 1) := by decide +kernel
theorem dX6_days_22 : decode cX6_days 22 = .ok (.iadd, 1) := by decide +kernel
theorem dX6_days_23 : decode cX6_days 23 = .ok (.istore_n 2, 1) := by decide +kernel
theorem dX6_days_24 : decode cX6_days 24 = .ok (.aload_n 0, 1) := by decide +kernel
theorem dX6_days_25 : decode cX6_days 25 = .ok (.getfield 7, 3) := by decide +kernel
theorem dX6_days_28 : decode cX6_days 28 = .ok (.iload_n 2, 1) := by decide +kernel
theorem dX6_days_29 : decode cX6_days 29 = .ok (.iaload, 1) := by decide +kernel
theorem dX6_days_30 : decode cX6_days 30 = .ok (.istore_n 3, 1) := by decide +kernel
theorem dX6_days_31 : decode cX6_days 31 = .ok (.iconst 0, 1) := by decide +kernel
theorem dX6_days_32 : decode cX6_days 32 = .ok (.istore 4, 2) := by decide +kernel
theorem dX6_days_34 : decode cX6_days 34 = .ok (.bipush (-99), 2) := by decide +kernel
theorem dX6_days_36 : decode cX6_days 36 = .ok (.istore 5, 2) := by decide +kernel
theorem dX6_days_38 : decode cX6_days 38 = .ok (.iload 5, 2) := by decide +kernel
theorem dX6_days_40 : decode cX6_days 40 = .ok (.bipush 99, 2) := by decide +kernel
theorem dX6_days_42 : decode cX6_days 42 = .ok (.if_icmp .gt 34, 3) := by decide +kernel
theorem dX6_days_45 : decode cX6_days 45 = .ok (.aload_n 0, 1) := by decide +kernel
theorem dX6_days_46 : decode cX6_days 46 = .ok (.getfield 7, 3) := by decide +kernel
theorem dX6_days_49 : decode cX6_days 49 = .ok (.iload_n 2, 1) := by decide +kernel
theorem dX6_days_50 : decode cX6_days 50 = .ok (.iload 5, 2) := by decide +kernel
theorem dX6_days_52 : decode cX6_days 52 = .ok (.iastore, 1) := by decide +kernel
theorem dX6_days_53 : decode cX6_days 53 = .ok (.iload 4, 2) := by decide +kernel
theorem dX6_days_55 : decode cX6_days 55 = .ok (.aload_n 0, 1) := by decide +kernel
theorem dX6_days_56 : decode cX6_days 56 = .ok (.invokevirtual 128, 3) := by decide +kernel
theorem dX6_days_59 : decode cX6_days 59 = .ok (.ifCond .eq 7, 3) := by decide +kernel
theorem dX6_days_62 : decode cX6_days 62 = .ok (.iconst 1, 1) := by decide +kernel
theorem dX6_days_63 : decode cX6_days 63 = .ok (.goto 4, 3) := by decide +kernel
theorem dX6_days_66 : decode cX6_days 66 = .ok (.iconst 0, 1) := by decide +kernel
theorem dX6_days_67 : decode cX6_days 67 = .ok (.iadd, 1) := by decide +kernel
theorem dX6_days_68 : decode cX6_days 68 = .ok (.istore 4, 2) := by decide +kernel
theorem dX6_days_70 : decode cX6_days 70 = .ok (.iinc 5 1, 3) := by decide +kernel
theorem dX6_days_73 : decode cX6_days 73 = .ok (.goto (-35), 3) := by decide +kernel
theorem dX6_days_76 : decode cX6_days 76 = .ok (.aload_n 0, 1) := by decide +kernel
theorem dX6_days_77 : decode cX6_days 77 = .ok (.getfield 7, 3) := by decide +kernel
theorem dX6_days_80 : decode cX6_days 80 = .ok (.iload_n 2, 1) := by decide +kernel
theorem dX6_days_81 : decode cX6_days 81 = .ok (.iload_n 3, 1) := by decide +kernel
theorem dX6_days_82 : decode cX6_days 82 = .ok (.iastore, 1) := by decide +kernel
theorem dX6_days_83 : decode cX6_days 83 = .ok (.iload 4, 2) := by decide +kernel
theorem dX6_days_85 : decode cX6_days 85 = .ok (.ireturn, 1) := by decide +kernel
theorem dX6_fewest_0 : decode cX6_fewest 0 = .ok (.aload_n 0, 1) := by decide +kernel
theorem dX6_fewest_1 : decode cX6_fewest 1 = .ok (.iload_n 1, 1) := by decide +kernel
theorem dX6_fewest_2 : decode cX6_fewest 2 = .ok (.invokevirtual 85, 3) := by decide +kernel
theorem dX6_fewest_5 : decode cX6_fewest 5 = .ok (.ifCond .ne 10, 3) := by decide +kernel
theorem dX6_fewest_8 : decode cX6_fewest 8 = .ok (.aload_n 0, 1) := by decide +kernel
theorem dX6_fewest_9 : decode cX6_fewest 9 = .ok (.ldc 37, 2) := by decide +kernel
theorem dX6_fewest_11 : decode cX6_fewest 11 = .ok (.invokevirtual 47, 3) := by decide +kernel
theorem dX6_fewest_14 : decode cX6_fewest 14 = .ok (.ireturn, 1) := by decide +kernel
theorem dX6_fewest_15 : decode cX6_fewest 15 = .ok (.iconst 5, 1) := by decide +kernel
theorem dX6_fewest_16 : decode cX6_fewest 16 = .ok (.bipush 6, 2) := by decide +kernel
theorem dX6_fewest_18 : decode cX6_fewest 18 = .ok (.iload_n 1, 1) := by decide +kernel
theorem dX6_fewest_19 : decode cX6_fewest 19 = .ok (.imul, 1) := by decide +kernel
theorem dX6_fewest_20 : decode cX6_fewest 20 = .ok (.iadd, 1) := by decide +kernel
theorem dX6_fewest_21 : decode cX6_fewest 21 = .ok (.iconst 3, 1) := by decide +kernel
theorem dX6_fewest_22 : decode cX6_fewest 22 = .ok (.iadd, 1) := by decide +kernel
theorem dX6_fewest_23 : decode cX6_fewest 23 = .ok (.istore_n 2, 1) := by decide +kernel
theorem dX6_fewest_24 : decode cX6_fewest 24 = .ok (.aload_n 0, 1) := by decide +kernel
theorem dX6_fewest_25 : decode cX6_fewest 25 = .ok (.getfield 7, 3) := by decide +kernel
theorem dX6_fewest_28 : decode cX6_fewest 28 = .ok (.iload_n 2, 1) := by decide +kernel
theorem dX6_fewest_29 : decode cX6_fewest 29 = .ok (.iaload, 1) := by decide +kernel
theorem dX6_fewest_30 : decode cX6_fewest 30 = .ok (.istore_n 3, 1) := by decide +kernel
theorem dX6_fewest_31 : decode cX6_fewest 31 = .ok (.aload_n 0, 1) := by decide +kernel
theorem dX6_fewest_32 : decode cX6_fewest 32 = .ok (.getfield 7, 3) := by decide +kernel
theorem dX6_fewest_35 : decode cX6_fewest 35 = .ok (.iload_n 2, 1) := by decide +kernel
theorem dX6_fewest_36 : decode cX6_fewest 36 = .ok (.bipush (-99), 2) := by decide +kernel
theorem dX6_fewest_38 : decode cX6_fewest 38 = .ok (.iastore, 1) := by decide +kernel
theorem dX6_fewest_39 : decode cX6_fewest 39 = .ok (.aload_n 0, 1) := by decide +kernel
theorem dX6_fewest_40 : decode cX6_fewest 40 = .ok (.getfield 7, 3) := by decide +kernel
theorem dX6_fewest_43 : decode cX6_fewest 43 = .ok (.iload_n 2, 1) := by decide +kernel
theorem dX6_fewest_44 : decode cX6_fewest 44 = .ok (.iaload, 1) := by decide +kernel
theorem dX6_fewest_45 : decode cX6_fewest 45 = .ok (.bipush 99, 2) := by decide +kernel
theorem dX6_fewest_47 : decode cX6_fewest 47 = .ok (.if_icmp .gt 23, 3) := by decide +kernel
theorem dX6_fewest_50 : decode cX6_fewest 50 = .ok (.aload_n 0, 1) := by decide +kernel
theorem dX6_fewest_51 : decode cX6_fewest 51 = .ok (.invokevirtual 128, 3) := by decide +kernel
theorem dX6_fewest_54 : decode cX6_fewest 54 = .ok (.ifCond .ne 16, 3) := by decide +kernel
theorem dX6_fewest_57 : decode cX6_fewest 57 = .ok (.aload_n 0, 1) := by decide +kernel
theorem dX6_fewest_58 : decode cX6_fewest 58 = .ok (.getfield 7, 3) := by decide +kernel
theorem dX6_fewest_61 : decode cX6_fewest 61 = .ok (.iload_n 2, 1) := by decide +kernel
theorem dX6_fewest_62 : decode cX6_fewest 62 = .ok (.dup2, 1) := by decide +kernel
theorem dX6_fewest_63 : decode cX6_fewest 63 = .ok (.iaload, 1) := by decide +kernel
theorem dX6_fewest_64 : decode cX6_fewest 64 = .ok (.iconst 1, 1) := by decide +kernel
theorem dX6_fewest_65 : decode cX6_fewest 65 = .ok (.iadd, 1) := by decide +kernel
theorem dX6_fewest_66 : decode cX6_fewest 66 = .ok (.iastore, 1) := by decide +kernel
theorem dX6_fewest_67 : decode cX6_fewest 67 = .ok (.goto (-28), 3) := by decide +kernel
theorem dX6_fewest_70 : decode cX6_fewest 70 = .ok (.aload_n 0, 1) := by decide +kernel
theorem dX6_fewest_71 : decode cX6_fewest 71 = .ok (.getfield 7, 3) := by decide +kernel
theorem dX6_fewest_74 : decode cX6_fewest 74 = .ok (.iload_n 2, 1) := by decide +kernel
theorem dX6_fewest_75 : decode cX6_fewest 75 = .ok (.iaload, 1) := by decide +kernel
theorem dX6_fewest_76 : decode cX6_fewest 76 = .ok (.istore 4, 2) := by decide +kernel
theorem dX6_fewest_78 : decode cX6_fewest 78 = .ok (.aload_n 0, 1) := by decide +kernel
theorem dX6_fewest_79 : decode cX6_fewest 79 = .ok (.getfield 7, 3) := by decide +kernel
theorem dX6_fewest_82 : decode cX6_fewest 82 = .ok (.iload_n 2, 1) := by decide +kernel
theorem dX6_fewest_83 : decode cX6_fewest 83 = .ok (.iload_n 3, 1) := by decide +kernel
theorem dX6_fewest_84 : decode cX6_fewest 84 = .ok (.iastore, 1) := by decide +kernel
theorem dX6_fewest_85 : decode cX6_fewest 85 = .ok (.iload 4, 2) := by decide +kernel
theorem dX6_fewest_87 : decode cX6_fewest 87 = .ok (.bipush 99, 2) := by decide +kernel
theorem dX6_fewest_89 : decode cX6_fewest 89 = .ok (.if_icmp .gt 8, 3) := by decide +kernel
theorem dX6_fewest_92 : decode cX6_fewest 92 = .ok (.iload 4, 2) := by decide +kernel
theorem dX6_fewest_94 : decode cX6_fewest 94 = .ok (.goto 9, 3) := by decide +kernel
theorem dX6_fewest_97 : decode cX6_fewest 97 = .ok (.aload_n 0, 1) := by decide +kernel
theorem dX6_fewest_98 : decode cX6_fewest 98 = .ok (.ldc 46, 2) := by decide +kernel
theorem dX6_fewest_100 : decode cX6_fewest 100 = .ok (.invokevirtual 47, 3) := by decide +kernel
theorem dX6_fewest_103 : decode cX6_fewest 103 = .ok (.ireturn, 1) := by decide +kernel
theorem dX6_tight_0 : decode cX6_tight 0 = .ok (.aload_n 0, 1) := by decide +kernel
theorem dX6_tight_1 : decode cX6_tight 1 = .ok (.getfield 7, 3) := by decide +kernel
theorem dX6_tight_4 : decode cX6_tight 4 = .ok (.iconst 2, 1) := by decide +kernel
theorem dX6_tight_5 : decode cX6_tight 5 = .ok (.iaload, 1) := by decide +kernel
theorem dX6_tight_6 : decode cX6_tight 6 = .ok (.istore_n 1, 1) := by decide +kernel
theorem dX6_tight_7 : decode cX6_tight 7 = .ok (.aload_n 0, 1) := by decide +kernel
theorem dX6_tight_8 : decode cX6_tight 8 = .ok (.getfield 7, 3) := by decide +kernel
theorem dX6_tight_11 : decode cX6_tight 11 = .ok (.iconst 2, 1) := by decide +kernel
theorem dX6_tight_12 : decode cX6_tight 12 = .ok (.bipush 9, 2) := by decide +kernel
theorem dX6_tight_14 : decode cX6_tight 14 = .ok (.iastore, 1) := by decide +kernel
theorem dX6_tight_15 : decode cX6_tight 15 = .ok (.aload_n 0, 1) := by decide +kernel
theorem dX6_tight_16 : decode cX6_tight 16 = .ok (.getfield 7, 3) := by decide +kernel
theorem dX6_tight_19 : decode cX6_tight 19 = .ok (.iconst 2, 1) := by decide +kernel
theorem dX6_tight_20 : decode cX6_tight 20 = .ok (.iaload, 1) := by decide +kernel
theorem dX6_tight_21 : decode cX6_tight 21 = .ok (.ifCond .lt 23, 3) := by decide +kernel
theorem dX6_tight_24 : decode cX6_tight 24 = .ok (.aload_n 0, 1) := by decide +kernel
theorem dX6_tight_25 : decode cX6_tight 25 = .ok (.invokevirtual 128, 3) := by decide +kernel
theorem dX6_tight_28 : decode cX6_tight 28 = .ok (.ifCond .eq 16, 3) := by decide +kernel
theorem dX6_tight_31 : decode cX6_tight 31 = .ok (.aload_n 0, 1) := by decide +kernel
theorem dX6_tight_32 : decode cX6_tight 32 = .ok (.getfield 7, 3) := by decide +kernel
theorem dX6_tight_35 : decode cX6_tight 35 = .ok (.iconst 2, 1) := by decide +kernel
theorem dX6_tight_36 : decode cX6_tight 36 = .ok (.dup2, 1) := by decide +kernel
theorem dX6_tight_37 : decode cX6_tight 37 = .ok (.iaload, 1) := by decide +kernel
theorem dX6_tight_38 : decode cX6_tight 38 = .ok (.iconst 1, 1) := by decide +kernel
theorem dX6_tight_39 : decode cX6_tight 39 = .ok (.isub, 1) := by decide +kernel
theorem dX6_tight_40 : decode cX6_tight 40 = .ok (.iastore, 1) := by decide +kernel
theorem dX6_tight_41 : decode cX6_tight 41 = .ok (.goto (-26), 3) := by decide +kernel
theorem dX6_tight_44 : decode cX6_tight 44 = .ok (.aload_n 0, 1) := by decide +kernel
theorem dX6_tight_45 : decode cX6_tight 45 = .ok (.getfield 7, 3) := by decide +kernel
theorem dX6_tight_48 : decode cX6_tight 48 = .ok (.iconst 2, 1) := by decide +kernel
theorem dX6_tight_49 : decode cX6_tight 49 = .ok (.iaload, 1) := by decide +kernel
theorem dX6_tight_50 : decode cX6_tight 50 = .ok (.istore_n 2, 1) := by decide +kernel
theorem dX6_tight_51 : decode cX6_tight 51 = .ok (.aload_n 0, 1) := by decide +kernel
theorem dX6_tight_52 : decode cX6_tight 52 = .ok (.getfield 7, 3) := by decide +kernel
theorem dX6_tight_55 : decode cX6_tight 55 = .ok (.iconst 2, 1) := by decide +kernel
theorem dX6_tight_56 : decode cX6_tight 56 = .ok (.iload_n 1, 1) := by decide +kernel
theorem dX6_tight_57 : decode cX6_tight 57 = .ok (.iastore, 1) := by decide +kernel
theorem dX6_tight_58 : decode cX6_tight 58 = .ok (.aload_n 0, 1) := by decide +kernel
theorem dX6_tight_59 : decode cX6_tight 59 = .ok (.iload_n 2, 1) := by decide +kernel
theorem dX6_tight_60 : decode cX6_tight 60 = .ok (.invokevirtual 153, 3) := by decide +kernel
theorem dX6_tight_63 : decode cX6_tight 63 = .ok (.ireturn, 1) := by decide +kernel
theorem dX6_loses_0 : decode cX6_loses 0 = .ok (.iload_n 1, 1) := by decide +kernel
theorem dX6_loses_1 : decode cX6_loses 1 = .ok (.i2l, 1) := by decide +kernel
theorem dX6_loses_2 : decode cX6_loses 2 = .ok (.lconst 1, 1) := by decide +kernel
theorem dX6_loses_3 : decode cX6_loses 3 = .ok (.ldc2_w 156, 3) := by decide +kernel
theorem dX6_loses_6 : decode cX6_loses 6 = .ok (.invokestatic 42, 3) := by decide +kernel
theorem dX6_loses_9 : decode cX6_loses 9 = .ok (.ifCond .ne 10, 3) := by decide +kernel
theorem dX6_loses_12 : decode cX6_loses 12 = .ok (.aload_n 0, 1) := by decide +kernel
theorem dX6_loses_13 : decode cX6_loses 13 = .ok (.ldc 37, 2) := by decide +kernel
theorem dX6_loses_15 : decode cX6_loses 15 = .ok (.invokevirtual 47, 3) := by decide +kernel
theorem dX6_loses_18 : decode cX6_loses 18 = .ok (.ireturn, 1) := by decide +kernel
theorem dX6_loses_19 : decode cX6_loses 19 = .ok (.iconst 0, 1) := by decide +kernel
theorem dX6_loses_20 : decode cX6_loses 20 = .ok (.istore_n 2, 1) := by decide +kernel
theorem dX6_loses_21 : decode cX6_loses 21 = .ok (.iload_n 2, 1) := by decide +kernel
theorem dX6_loses_22 : decode cX6_loses 22 = .ok (.iload_n 1, 1) := by decide +kernel
theorem dX6_loses_23 : decode cX6_loses 23 = .ok (.if_icmp .ge 63, 3) := by decide +kernel
theorem dX6_loses_26 : decode cX6_loses 26 = .ok (.aload_n 0, 1) := by decide +kernel
theorem dX6_loses_27 : decode cX6_loses 27 = .ok (.getfield 7, 3) := by decide +kernel
theorem dX6_loses_30 : decode cX6_loses 30 = .ok (.iconst 4, 1) := by decide +kernel
theorem dX6_loses_31 : decode cX6_loses 31 = .ok (.aload_n 0, 1) := by decide +kernel
theorem dX6_loses_32 : decode cX6_loses 32 = .ok (.getfield 7, 3) := by decide +kernel
theorem dX6_loses_35 : decode cX6_loses 35 = .ok (.iconst 4, 1) := by decide +kernel
theorem dX6_loses_36 : decode cX6_loses 36 = .ok (.iaload, 1) := by decide +kernel
theorem dX6_loses_37 : decode cX6_loses 37 = .ok (.ldc 158, 2) := by decide +kernel
theorem dX6_loses_39 : decode cX6_loses 39 = .ok (.imul, 1) := by decide +kernel
theorem dX6_loses_40 : decode cX6_loses 40 = .ok (.sipush 12345, 3) := by decide +kernel
theorem dX6_loses_43 : decode cX6_loses 43 = .ok (.iadd, 1) := by decide +kernel
theorem dX6_loses_44 : decode cX6_loses 44 = .ok (.iastore, 1) := by decide +kernel
theorem dX6_loses_45 : decode cX6_loses 45 = .ok (.aload_n 0, 1) := by decide +kernel
theorem dX6_loses_46 : decode cX6_loses 46 = .ok (.getfield 7, 3) := by decide +kernel
theorem dX6_loses_49 : decode cX6_loses 49 = .ok (.iconst 4, 1) := by decide +kernel
theorem dX6_loses_50 : decode cX6_loses 50 = .ok (.iaload, 1) := by decide +kernel
theorem dX6_loses_51 : decode cX6_loses 51 = .ok (.bipush 8, 2) := by decide +kernel
theorem dX6_loses_53 : decode cX6_loses 53 = .ok (.iushr, 1) := by decide +kernel
theorem dX6_loses_54 : decode cX6_loses 54 = .ok (.bipush 16, 2) := by decide +kernel
theorem dX6_loses_56 : decode cX6_loses 56 = .ok (.irem, 1) := by decide +kernel
theorem dX6_loses_57 : decode cX6_loses 57 = .ok (.istore_n 3, 1) := by decide +kernel
theorem dX6_loses_58 : decode cX6_loses 58 = .ok (.aload_n 0, 1) := by decide +kernel
theorem dX6_loses_59 : decode cX6_loses 59 = .ok (.iload_n 3, 1) := by decide +kernel
theorem dX6_loses_60 : decode cX6_loses 60 = .ok (.invokevirtual 85, 3) := by decide +kernel
theorem dX6_loses_63 : decode cX6_loses 63 = .ok (.ifCond .eq 17, 3) := by decide +kernel
theorem dX6_loses_66 : decode cX6_loses 66 = .ok (.aload_n 0, 1) := by decide +kernel
theorem dX6_loses_67 : decode cX6_loses 67 = .ok (.getfield 7, 3) := by decide +kernel
theorem dX6_loses_70 : decode cX6_loses 70 = .ok (.iconst 5, 1) := by decide +kernel
theorem dX6_loses_71 : decode cX6_loses 71 = .ok (.bipush 6, 2) := by decide +kernel
theorem dX6_loses_73 : decode cX6_loses 73 = .ok (.iload_n 3, 1) := by decide +kernel
theorem dX6_loses_74 : decode cX6_loses 74 = .ok (.imul, 1) := by decide +kernel
theorem dX6_loses_75 : decode cX6_loses 75 = .ok (.iadd, 1) := by decide +kernel
theorem dX6_loses_76 : decode cX6_loses 76 = .ok (.iconst 5, 1) := by decide +kernel
theorem dX6_loses_77 : decode cX6_loses 77 = .ok (.iadd, 1) := by decide +kernel
theorem dX6_loses_78 : decode cX6_loses 78 = .ok (.iconst 1, 1) := by decide +kernel
theorem dX6_loses_79 : decode cX6_loses 79 = .ok (.iastore, 1) := by decide +kernel
theorem dX6_loses_80 : decode cX6_loses 80 = .ok (.iinc 2 1, 3) := by decide +kernel
theorem dX6_loses_83 : decode cX6_loses 83 = .ok (.goto (-62), 3) := by decide +kernel
theorem dX6_loses_86 : decode cX6_loses 86 = .ok (.aload_n 0, 1) := by decide +kernel
theorem dX6_loses_87 : decode cX6_loses 87 = .ok (.invokevirtual 61, 3) := by decide +kernel
theorem dX6_loses_90 : decode cX6_loses 90 = .ok (.invokestatic 147, 3) := by decide +kernel
theorem dX6_loses_93 : decode cX6_loses 93 = .ok (.ireturn, 1) := by decide +kernel
theorem dX6_odds_0 : decode cX6_odds 0 = .ok (.iload_n 1, 1) := by decide +kernel
theorem dX6_odds_1 : decode cX6_odds 1 = .ok (.i2l, 1) := by decide +kernel
theorem dX6_odds_2 : decode cX6_odds 2 = .ok (.lconst 0, 1) := by decide +kernel
theorem dX6_odds_3 : decode cX6_odds 3 = .ok (.ldc2_w 159, 3) := by decide +kernel
theorem dX6_odds_6 : decode cX6_odds 6 = .ok (.invokestatic 42, 3) := by decide +kernel
theorem dX6_odds_9 : decode cX6_odds 9 = .ok (.ifCond .eq 13, 3) := by decide +kernel
theorem dX6_odds_12 : decode cX6_odds 12 = .ok (.iload_n 2, 1) := by decide +kernel
theorem dX6_odds_13 : decode cX6_odds 13 = .ok (.i2l, 1) := by decide +kernel
theorem dX6_odds_14 : decode cX6_odds 14 = .ok (.lconst 0, 1) := by decide +kernel
theorem dX6_odds_15 : decode cX6_odds 15 = .ok (.lconst 1, 1) := by decide +kernel
theorem dX6_odds_16 : decode cX6_odds 16 = .ok (.invokestatic 42, 3) := by decide +kernel
theorem dX6_odds_19 : decode cX6_odds 19 = .ok (.ifCond .ne 11, 3) := by decide +kernel
theorem dX6_odds_22 : decode cX6_odds 22 = .ok (.aload_n 0, 1) := by decide +kernel
theorem dX6_odds_23 : decode cX6_odds 23 = .ok (.ldc 37, 2) := by decide +kernel
theorem dX6_odds_25 : decode cX6_odds 25 = .ok (.invokevirtual 47, 3) := by decide +kernel
theorem dX6_odds_28 : decode cX6_odds 28 = .ok (.i2l, 1) := by decide +kernel
theorem dX6_odds_29 : decode cX6_odds 29 = .ok (.lreturn, 1) := by decide +kernel
theorem dX6_odds_30 : decode cX6_odds 30 = .ok (.lconst 1, 1) := by decide +kernel
theorem dX6_odds_31 : decode cX6_odds 31 = .ok (.lstore_n 3, 1) := by decide +kernel
theorem dX6_odds_32 : decode cX6_odds 32 = .ok (.lconst 1, 1) := by decide +kernel
theorem dX6_odds_33 : decode cX6_odds 33 = .ok (.lstore 5, 2) := by decide +kernel
theorem dX6_odds_35 : decode cX6_odds 35 = .ok (.bipush 16, 2) := by decide +kernel
theorem dX6_odds_37 : decode cX6_odds 37 = .ok (.aload_n 0, 1) := by decide +kernel
theorem dX6_odds_38 : decode cX6_odds 38 = .ok (.iconst 0, 1) := by decide +kernel
theorem dX6_odds_39 : decode cX6_odds 39 = .ok (.invokevirtual 96, 3) := by decide +kernel
theorem dX6_odds_42 : decode cX6_odds 42 = .ok (.invokestatic 147, 3) := by decide +kernel
theorem dX6_odds_45 : decode cX6_odds 45 = .ok (.isub, 1) := by decide +kernel
theorem dX6_odds_46 : decode cX6_odds 46 = .ok (.istore 7, 2) := by decide +kernel
theorem dX6_odds_48 : decode cX6_odds 48 = .ok (.iconst 0, 1) := by decide +kernel
theorem dX6_odds_49 : decode cX6_odds 49 = .ok (.istore 8, 2) := by decide +kernel
theorem dX6_odds_51 : decode cX6_odds 51 = .ok (.iload 8, 2) := by decide +kernel
theorem dX6_odds_53 : decode cX6_odds 53 = .ok (.iload_n 1, 1) := by decide +kernel
theorem dX6_odds_54 : decode cX6_odds 54 = .ok (.if_icmp .ge 23, 3) := by decide +kernel
theorem dX6_odds_57 : decode cX6_odds 57 = .ok (.lload_n 3, 1) := by decide +kernel
theorem dX6_odds_58 : decode cX6_odds 58 = .ok (.iload 7, 2) := by decide +kernel
theorem dX6_odds_60 : decode cX6_odds 60 = .ok (.i2l, 1) := by decide +kernel
theorem dX6_odds_61 : decode cX6_odds 61 = .ok (.lmul, 1) := by decide +kernel
theorem dX6_odds_62 : decode cX6_odds 62 = .ok (.lstore_n 3, 1) := by decide +kernel
theorem dX6_odds_63 : decode cX6_odds 63 = .ok (.lload 5, 2) := by decide +kernel
theorem dX6_odds_65 : decode cX6_odds 65 = .ok (.ldc2_w 161, 3) := by decide +kernel
theorem dX6_odds_68 : decode cX6_odds 68 = .ok (.lmul, 1) := by decide +kernel
theorem dX6_odds_69 : decode cX6_odds 69 = .ok (.lstore 5, 2) := by decide +kernel
theorem dX6_odds_71 : decode cX6_odds 71 = .ok (.iinc 8 1, 3) := by decide +kernel
theorem dX6_odds_74 : decode cX6_odds 74 = .ok (.goto (-23), 3) := by decide +kernel
theorem dX6_odds_77 : decode cX6_odds 77 = .ok (.lload_n 3, 1) := by decide +kernel
theorem dX6_odds_78 : decode cX6_odds 78 = .ok (.ldc2_w 131, 3) := by decide +kernel
theorem dX6_odds_81 : decode cX6_odds 81 = .ok (.lrem, 1) := by decide +kernel
theorem dX6_odds_82 : decode cX6_odds 82 = .ok (.lconst 0, 1) := by decide +kernel
theorem dX6_odds_83 : decode cX6_odds 83 = .ok (.lcmp, 1) := by decide +kernel
theorem dX6_odds_84 : decode cX6_odds 84 = .ok (.ifCond .ne 31, 3) := by decide +kernel
theorem dX6_odds_87 : decode cX6_odds 87 = .ok (.lload 5, 2) := by decide +kernel
theorem dX6_odds_89 : decode cX6_odds 89 = .ok (.ldc2_w 131, 3) := by decide +kernel
theorem dX6_odds_92 : decode cX6_odds 92 = .ok (.lrem, 1) := by decide +kernel
theorem dX6_odds_93 : decode cX6_odds 93 = .ok (.lconst 0, 1) := by decide +kernel
theorem dX6_odds_94 : decode cX6_odds 94 = .ok (.lcmp, 1) := by decide +kernel
theorem dX6_odds_95 : decode cX6_odds 95 = .ok (.ifCond .ne 20, 3) := by decide +kernel
theorem dX6_odds_98 : decode cX6_odds 98 = .ok (.lload_n 3, 1) := by decide +kernel
theorem dX6_odds_99 : decode cX6_odds 99 = .ok (.ldc2_w 131, 3) := by decide +kernel
theorem dX6_odds_102 : decode cX6_odds 102 = .ok (.ldiv, 1) := by decide +kernel
theorem dX6_odds_103 : decode cX6_odds 103 = .ok (.lstore_n 3, 1) := by decide +kernel
theorem dX6_odds_104 : decode cX6_odds 104 = .ok (.lload 5, 2) := by decide +kernel
theorem dX6_odds_106 : decode cX6_odds 106 = .ok (.ldc2_w 131, 3) := by decide +kernel
theorem dX6_odds_109 : decode cX6_odds 109 = .ok (.ldiv, 1) := by decide +kernel
theorem dX6_odds_110 : decode cX6_odds 110 = .ok (.lstore 5, 2) := by decide +kernel
theorem dX6_odds_112 : decode cX6_odds 112 = .ok (.goto (-35), 3) := by decide +kernel
theorem dX6_odds_115 : decode cX6_odds 115 = .ok (.iload_n 2, 1) := by decide +kernel
theorem dX6_odds_116 : decode cX6_odds 116 = .ok (.ifCond .ne 7, 3) := by decide +kernel
theorem dX6_odds_119 : decode cX6_odds 119 = .ok (.lload_n 3, 1) := by decide +kernel
theorem dX6_odds_120 : decode cX6_odds 120 = .ok (.goto 5, 3) := by decide +kernel
theorem dX6_odds_123 : decode cX6_odds 123 = .ok (.lload 5, 2) := by decide +kernel
theorem dX6_odds_125 : decode cX6_odds 125 = .ok (.lreturn, 1) := by decide +kernel
theorem dX6_seed_0 : decode cX6_seed 0 = .ok (.aload_n 0, 1) := by decide +kernel
theorem dX6_seed_1 : decode cX6_seed 1 = .ok (.iconst 4, 1) := by decide +kernel
theorem dX6_seed_2 : decode cX6_seed 2 = .ok (.iload_n 1, 1) := by decide +kernel
theorem dX6_seed_3 : decode cX6_seed 3 = .ok (.invokevirtual 103, 3) := by decide +kernel
theorem dX6_seed_6 : decode cX6_seed 6 = .ok (.ireturn, 1) := by decide +kernel
theorem dX6_feed_0 : decode cX6_feed 0 = .ok (.iload_n 2, 1) := by decide +kernel
theorem dX6_feed_1 : decode cX6_feed 1 = .ok (.i2l, 1) := by decide +kernel
theorem dX6_feed_2 : decode cX6_feed 2 = .ok (.lconst 1, 1) := by decide +kernel
theorem dX6_feed_3 : decode cX6_feed 3 = .ok (.ldc2_w 163, 3) := by decide +kernel
theorem dX6_feed_6 : decode cX6_feed 6 = .ok (.invokestatic 42, 3) := by decide +kernel
theorem dX6_feed_9 : decode cX6_feed 9 = .ok (.ifCond .ne 10, 3) := by decide +kernel
theorem dX6_feed_12 : decode cX6_feed 12 = .ok (.aload_n 0, 1) := by decide +kernel
theorem dX6_feed_13 : decode cX6_feed 13 = .ok (.ldc 37, 2) := by decide +kernel
theorem dX6_feed_15 : decode cX6_feed 15 = .ok (.invokevirtual 47, 3) := by decide +kernel
theorem dX6_feed_18 : decode cX6_feed 18 = .ok (.ireturn, 1) := by decide +kernel
theorem dX6_feed_19 : decode cX6_feed 19 = .ok (.aload_n 0, 1) := by decide +kernel
theorem dX6_feed_20 : decode cX6_feed 20 = .ok (.getfield 165, 3) := by decide +kernel
theorem dX6_feed_23 : decode cX6_feed 23 = .ok (.iload_n 2, 1) := by decide +kernel
theorem dX6_feed_24 : decode cX6_feed 24 = .ok (.iadd, 1) := by decide +kernel
theorem dX6_feed_25 : decode cX6_feed 25 = .ok (.bipush 120, 2) := by decide +kernel
theorem dX6_feed_27 : decode cX6_feed 27 = .ok (.if_icmp .le 10, 3) := by decide +kernel
theorem dX6_feed_30 : decode cX6_feed 30 = .ok (.aload_n 0, 1) := by decide +kernel
theorem dX6_feed_31 : decode cX6_feed 31 = .ok (.ldc 80, 2) := by decide +kernel
theorem dX6_feed_33 : decode cX6_feed 33 = .ok (.invokevirtual 47, 3) := by decide +kernel
theorem dX6_feed_36 : decode cX6_feed 36 = .ok (.ireturn, 1) := by decide +kernel
theorem dX6_feed_37 : decode cX6_feed 37 = .ok (.iload_n 2, 1) := by decide +kernel
theorem dX6_feed_38 : decode cX6_feed 38 = .ok (.iconst 1, 1) := by decide +kernel
theorem dX6_feed_39 : decode cX6_feed 39 = .ok (.isub, 1) := by decide +kernel
theorem dX6_feed_40 : decode cX6_feed 40 = .ok (.istore_n 3, 1) := by decide +kernel
theorem dX6_feed_41 : decode cX6_feed 41 = .ok (.iload_n 3, 1) := by decide +kernel
theorem dX6_feed_42 : decode cX6_feed 42 = .ok (.ifCond .lt 38, 3) := by decide +kernel
theorem dX6_feed_45 : decode cX6_feed 45 = .ok (.aload_n 0, 1) := by decide +kernel
theorem dX6_feed_46 : decode cX6_feed 46 = .ok (.getfield 22, 3) := by decide +kernel
theorem dX6_feed_49 : decode cX6_feed 49 = .ok (.aload_n 0, 1) := by decide +kernel
theorem dX6_feed_50 : decode cX6_feed 50 = .ok (.getfield 165, 3) := by decide +kernel
theorem dX6_feed_53 : decode cX6_feed 53 = .ok (.iload_n 1, 1) := by decide +kernel
theorem dX6_feed_54 : decode cX6_feed 54 = .ok (.bipush 8, 2) := by decide +kernel
theorem dX6_feed_56 : decode cX6_feed 56 = .ok (.iload_n 3, 1) := by decide +kernel
theorem dX6_feed_57 : decode cX6_feed 57 = .ok (.imul, 1) := by decide +kernel
theorem dX6_feed_58 : decode cX6_feed 58 = .ok (.ishr, 1) := by decide +kernel
theorem dX6_feed_59 : decode cX6_feed 59 = .ok (.sipush 255, 3) := by decide +kernel
theorem dX6_feed_62 : decode cX6_feed 62 = .ok (.iand, 1) := by decide +kernel
theorem dX6_feed_63 : decode cX6_feed 63 = .ok (.iastore, 1) := by decide +kernel
theorem dX6_feed_64 : decode cX6_feed 64 = .ok (.aload_n 0, 1) := by decide +kernel
theorem dX6_feed_65 : decode cX6_feed 65 = .ok (.dup, 1) := by decide +kernel
theorem dX6_feed_66 : decode cX6_feed 66 = .ok (.getfield 165, 3) := by decide +kernel
theorem dX6_feed_69 : decode cX6_feed 69 = .ok (.iconst 1, 1) := by decide +kernel
theorem dX6_feed_70 : decode cX6_feed 70 = .ok (.iadd, 1) := by decide +kernel
theorem dX6_feed_71 : decode cX6_feed 71 = .ok (.putfield 165, 3) := by decide +kernel
theorem dX6_feed_74 : decode cX6_feed 74 = .ok (.iinc 3 (-1), 3) := by decide +kernel
theorem dX6_feed_77 : decode cX6_feed 77 = .ok (.goto (-36), 3) := by decide +kernel
theorem dX6_feed_80 : decode cX6_feed 80 = .ok (.aload_n 0, 1) := by decide +kernel
theorem dX6_feed_81 : decode cX6_feed 81 = .ok (.getfield 165, 3) := by decide +kernel
theorem dX6_feed_84 : decode cX6_feed 84 = .ok (.ireturn, 1) := by decide +kernel
theorem dX6_wipe_0 : decode cX6_wipe 0 = .ok (.aload_n 0, 1) := by decide +kernel
theorem dX6_wipe_1 : decode cX6_wipe 1 = .ok (.getfield 165, 3) := by decide +kernel
theorem dX6_wipe_4 : decode cX6_wipe 4 = .ok (.istore_n 1, 1) := by decide +kernel
theorem dX6_wipe_5 : decode cX6_wipe 5 = .ok (.aload_n 0, 1) := by decide +kernel
theorem dX6_wipe_6 : decode cX6_wipe 6 = .ok (.iconst 0, 1) := by decide +kernel
theorem dX6_wipe_7 : decode cX6_wipe 7 = .ok (.putfield 165, 3) := by decide +kernel
theorem dX6_wipe_10 : decode cX6_wipe 10 = .ok (.iload_n 1, 1) := by decide +kernel
theorem dX6_wipe_11 : decode cX6_wipe 11 = .ok (.ireturn, 1) := by decide +kernel
theorem dX6_isAlpha_0 : decode cX6_isAlpha 0 = .ok (.iload_n 0, 1) := by decide +kernel
theorem dX6_isAlpha_1 : decode cX6_isAlpha 1 = .ok (.bipush 97, 2) := by decide +kernel
theorem dX6_isAlpha_3 : decode cX6_isAlpha 3 = .ok (.if_icmp .lt 13, 3) := by decide +kernel
theorem dX6_isAlpha_6 : decode cX6_isAlpha 6 = .ok (.iload_n 0, 1) := by decide +kernel
theorem dX6_isAlpha_7 : decode cX6_isAlpha 7 = .ok (.bipush 122, 2) := by decide +kernel
theorem dX6_isAlpha_9 : decode cX6_isAlpha 9 = .ok (.if_icmp .gt 7, 3) := by decide +kernel
theorem dX6_isAlpha_12 : decode cX6_isAlpha 12 = .ok (.iconst 1, 1) := by decide +kernel
theorem dX6_isAlpha_13 : decode cX6_isAlpha 13 = .ok (.goto 4, 3) := by decide +kernel
theorem dX6_isAlpha_16 : decode cX6_isAlpha 16 = .ok (.iconst 0, 1) := by decide +kernel
theorem dX6_isAlpha_17 : decode cX6_isAlpha 17 = .ok (.ireturn, 1) := by decide +kernel
theorem dX6_isDigit_0 : decode cX6_isDigit 0 = .ok (.iload_n 0, 1) := by decide +kernel
theorem dX6_isDigit_1 : decode cX6_isDigit 1 = .ok (.bipush 48, 2) := by decide +kernel
theorem dX6_isDigit_3 : decode cX6_isDigit 3 = .ok (.if_icmp .lt 13, 3) := by decide +kernel
theorem dX6_isDigit_6 : decode cX6_isDigit 6 = .ok (.iload_n 0, 1) := by decide +kernel
theorem dX6_isDigit_7 : decode cX6_isDigit 7 = .ok (.bipush 57, 2) := by decide +kernel
theorem dX6_isDigit_9 : decode cX6_isDigit 9 = .ok (.if_icmp .gt 7, 3) := by decide +kernel
theorem dX6_isDigit_12 : decode cX6_isDigit 12 = .ok (.iconst 1, 1) := by decide +kernel
theorem dX6_isDigit_13 : decode cX6_isDigit 13 = .ok (.goto 4, 3) := by decide +kernel
theorem dX6_isDigit_16 : decode cX6_isDigit 16 = .ok (.iconst 0, 1) := by decide +kernel
theorem dX6_isDigit_17 : decode cX6_isDigit 17 = .ok (.ireturn, 1) := by decide +kernel
theorem dX6_byteAt_0 : decode cX6_byteAt 0 = .ok (.iload_n 1, 1) := by decide +kernel
theorem dX6_byteAt_1 : decode cX6_byteAt 1 = .ok (.aload_n 0, 1) := by decide +kernel
theorem dX6_byteAt_2 : decode cX6_byteAt 2 = .ok (.getfield 165, 3) := by decide +kernel
theorem dX6_byteAt_5 : decode cX6_byteAt 5 = .ok (.if_icmp .ge 12, 3) := by decide +kernel
theorem dX6_byteAt_8 : decode cX6_byteAt 8 = .ok (.aload_n 0, 1) := by decide +kernel
theorem dX6_byteAt_9 : decode cX6_byteAt 9 = .ok (.getfield 22, 3) := by decide +kernel
theorem dX6_byteAt_12 : decode cX6_byteAt 12 = .ok (.iload_n 1, 1) := by decide +kernel
theorem dX6_byteAt_13 : decode cX6_byteAt 13 = .ok (.iaload, 1) := by decide +kernel
theorem dX6_byteAt_14 : decode cX6_byteAt 14 = .ok (.goto 4, 3) := by decide +kernel
theorem dX6_byteAt_17 : decode cX6_byteAt 17 = .ok (.iconst (-1), 1) := by decide +kernel
theorem dX6_byteAt_18 : decode cX6_byteAt 18 = .ok (.ireturn, 1) := by decide +kernel
theorem dX6_nextToken_0 : decode cX6_nextToken 0 = .ok (.aload_n 0, 1) := by decide +kernel
theorem dX6_nextToken_1 : decode cX6_nextToken 1 = .ok (.aload_n 0, 1) := by decide +kernel
theorem dX6_nextToken_2 : decode cX6_nextToken 2 = .ok (.getfield 168, 3) := by decide +kernel
theorem dX6_nextToken_5 : decode cX6_nextToken 5 = .ok (.putfield 171, 3) := by decide +kernel
theorem dX6_nextToken_8 : decode cX6_nextToken 8 = .ok (.aload_n 0, 1) := by decide +kernel
theorem dX6_nextToken_9 : decode cX6_nextToken 9 = .ok (.aload_n 0, 1) := by decide +kernel
theorem dX6_nextToken_10 : decode cX6_nextToken 10 = .ok (.getfield 171, 3) := by decide +kernel
theorem dX6_nextToken_13 : decode cX6_nextToken 13 = .ok (.invokevirtual 174, 3) := by decide +kernel
theorem dX6_nextToken_16 : decode cX6_nextToken 16 = .ok (.bipush 32, 2) := by decide +kernel
theorem dX6_nextToken_18 : decode cX6_nextToken 18 = .ok (.if_icmp .ne 16, 3) := by decide +kernel
theorem dX6_nextToken_21 : decode cX6_nextToken 21 = .ok (.aload_n 0, 1) := by decide +kernel
theorem dX6_nextToken_22 : decode cX6_nextToken 22 = .ok (.dup, 1) := by decide +kernel
theorem dX6_nextToken_23 : decode cX6_nextToken 23 = .ok (.getfield 171, 3) := by decide +kernel
theorem dX6_nextToken_26 : decode cX6_nextToken 26 = .ok (.iconst 1, 1) := by decide +kernel
theorem dX6_nextToken_27 : decode cX6_nextToken 27 = .ok (.iadd, 1) := by decide +kernel
theorem dX6_nextToken_28 : decode cX6_nextToken 28 = .ok (.putfield 171, 3) := by decide +kernel
theorem dX6_nextToken_31 : decode cX6_nextToken 31 = .ok (.goto (-23), 3) := by decide +kernel
theorem dX6_nextToken_34 : decode cX6_nextToken 34 = .ok (.aload_n 0, 1) := by decide +kernel
theorem dX6_nextToken_35 : decode cX6_nextToken 35 = .ok (.aload_n 0, 1) := by decide +kernel
theorem dX6_nextToken_36 : decode cX6_nextToken 36 = .ok (.getfield 171, 3) := by decide +kernel
theorem dX6_nextToken_39 : decode cX6_nextToken 39 = .ok (.putfield 168, 3) := by decide +kernel
theorem dX6_nextToken_42 : decode cX6_nextToken 42 = .ok (.aload_n 0, 1) := by decide +kernel
theorem dX6_nextToken_43 : decode cX6_nextToken 43 = .ok (.aload_n 0, 1) := by decide +kernel
theorem dX6_nextToken_44 : decode cX6_nextToken 44 = .ok (.getfield 171, 3) := by decide +kernel
theorem dX6_nextToken_47 : decode cX6_nextToken 47 = .ok (.invokevirtual 174, 3) := by decide +kernel
theorem dX6_nextToken_50 : decode cX6_nextToken 50 = .ok (.istore_n 1, 1) := by decide +kernel
theorem dX6_nextToken_51 : decode cX6_nextToken 51 = .ok (.aload_n 0, 1) := by decide +kernel
theorem dX6_nextToken_52 : decode cX6_nextToken 52 = .ok (.iload_n 1, 1) := by decide +kernel
theorem dX6_nextToken_53 : decode cX6_nextToken 53 = .ok (.ifCond .ge 7, 3) := by decide +kernel
theorem dX6_nextToken_56 : decode cX6_nextToken 56 = .ok (.iconst 0, 1) := by decide +kernel
theorem dX6_nextToken_57 : decode cX6_nextToken 57 = .ok (.goto 46, 3) := by decide +kernel
theorem dX6_nextToken_60 : decode cX6_nextToken 60 = .ok (.iload_n 1, 1) := by decide +kernel
theorem dX6_nextToken_61 : decode cX6_nextToken 61 = .ok (.invokestatic 177, 3) := by decide +kernel
theorem dX6_nextToken_64 : decode cX6_nextToken 64 = .ok (.ifCond .eq 7, 3) := by decide +kernel
theorem dX6_nextToken_67 : decode cX6_nextToken 67 = .ok (.iconst 1, 1) := by decide +kernel
theorem dX6_nextToken_68 : decode cX6_nextToken 68 = .ok (.goto 35, 3) := by decide +kernel
theorem dX6_nextToken_71 : decode cX6_nextToken 71 = .ok (.iload_n 1, 1) := by decide +kernel
theorem dX6_nextToken_72 : decode cX6_nextToken 72 = .ok (.invokestatic 180, 3) := by decide +kernel
theorem dX6_nextToken_75 : decode cX6_nextToken 75 = .ok (.ifCond .eq 7, 3) := by decide +kernel
theorem dX6_nextToken_78 : decode cX6_nextToken 78 = .ok (.iconst 2, 1) := by decide +kernel
theorem dX6_nextToken_79 : decode cX6_nextToken 79 = .ok (.goto 24, 3) := by decide +kernel
theorem dX6_nextToken_82 : decode cX6_nextToken 82 = .ok (.iload_n 1, 1) := by decide +kernel
theorem dX6_nextToken_83 : decode cX6_nextToken 83 = .ok (.bipush 59, 2) := by decide +kernel
theorem dX6_nextToken_85 : decode cX6_nextToken 85 = .ok (.if_icmp .ne 7, 3) := by decide +kernel
theorem dX6_nextToken_88 : decode cX6_nextToken 88 = .ok (.iconst 3, 1) := by decide +kernel
theorem dX6_nextToken_89 : decode cX6_nextToken 89 = .ok (.goto 14, 3) := by decide +kernel
theorem dX6_nextToken_92 : decode cX6_nextToken 92 = .ok (.iload_n 1, 1) := by decide +kernel
theorem dX6_nextToken_93 : decode cX6_nextToken 93 = .ok (.bipush 45, 2) := by decide +kernel
theorem dX6_nextToken_95 : decode cX6_nextToken 95 = .ok (.if_icmp .ne 7, 3) := by decide +kernel
theorem dX6_nextToken_98 : decode cX6_nextToken 98 = .ok (.iconst 5, 1) := by decide +kernel
theorem dX6_nextToken_99 : decode cX6_nextToken 99 = .ok (.goto 4, 3) := by decide +kernel
theorem dX6_nextToken_102 : decode cX6_nextToken 102 = .ok (.iconst 4, 1) := by decide +kernel
theorem dX6_nextToken_103 : decode cX6_nextToken 103 = .ok (.putfield 183, 3) := by decide +kernel
theorem dX6_nextToken_106 : decode cX6_nextToken 106 = .ok (.aload_n 0, 1) := by decide +kernel
theorem dX6_nextToken_107 : decode cX6_nextToken 107 = .ok (.iconst 0, 1) := by decide +kernel
theorem dX6_nextToken_108 : decode cX6_nextToken 108 = .ok (.putfield 186, 3) := by decide +kernel
theorem dX6_nextToken_111 : decode cX6_nextToken 111 = .ok (.aload_n 0, 1) := by decide +kernel
theorem dX6_nextToken_112 : decode cX6_nextToken 112 = .ok (.getfield 183, 3) := by decide +kernel
theorem dX6_nextToken_115 : decode cX6_nextToken 115 = .ok (.iconst 1, 1) := by decide +kernel
theorem dX6_nextToken_116 : decode cX6_nextToken 116 = .ok (.if_icmp .ne 30, 3) := by decide +kernel
theorem dX6_nextToken_119 : decode cX6_nextToken 119 = .ok (.aload_n 0, 1) := by decide +kernel
theorem dX6_nextToken_120 : decode cX6_nextToken 120 = .ok (.aload_n 0, 1) := by decide +kernel
theorem dX6_nextToken_121 : decode cX6_nextToken 121 = .ok (.getfield 168, 3) := by decide +kernel
theorem dX6_nextToken_124 : decode cX6_nextToken 124 = .ok (.invokevirtual 174, 3) := by decide +kernel
theorem dX6_nextToken_127 : decode cX6_nextToken 127 = .ok (.invokestatic 177, 3) := by decide +kernel
theorem dX6_nextToken_130 : decode cX6_nextToken 130 = .ok (.ifCond .eq 16, 3) := by decide +kernel
theorem dX6_nextToken_133 : decode cX6_nextToken 133 = .ok (.aload_n 0, 1) := by decide +kernel
theorem dX6_nextToken_134 : decode cX6_nextToken 134 = .ok (.dup, 1) := by decide +kernel
theorem dX6_nextToken_135 : decode cX6_nextToken 135 = .ok (.getfield 168, 3) := by decide +kernel
theorem dX6_nextToken_138 : decode cX6_nextToken 138 = .ok (.iconst 1, 1) := by decide +kernel
theorem dX6_nextToken_139 : decode cX6_nextToken 139 = .ok (.iadd, 1) := by decide +kernel
theorem dX6_nextToken_140 : decode cX6_nextToken 140 = .ok (.putfield 168, 3) := by decide +kernel
theorem dX6_nextToken_143 : decode cX6_nextToken 143 = .ok (.goto (-32), 3) := by decide +kernel
theorem dX6_nextToken_146 : decode cX6_nextToken 146 = .ok (.aload_n 0, 1) := by decide +kernel
theorem dX6_nextToken_147 : decode cX6_nextToken 147 = .ok (.getfield 183, 3) := by decide +kernel
theorem dX6_nextToken_150 : decode cX6_nextToken 150 = .ok (.iconst 2, 1) := by decide +kernel
theorem dX6_nextToken_151 : decode cX6_nextToken 151 = .ok (.if_icmp .ne 70, 3) := by decide +kernel
theorem dX6_nextToken_154 : decode cX6_nextToken 154 = .ok (.aload_n 0, 1) := by decide +kernel
theorem dX6_nextToken_155 : decode cX6_nextToken 155 = .ok (.aload_n 0, 1) := by decide +kernel
theorem dX6_nextToken_156 : decode cX6_nextToken 156 = .ok (.getfield 168, 3) := by decide +kernel
theorem dX6_nextToken_159 : decode cX6_nextToken 159 = .ok (.invokevirtual 174, 3) := by decide +kernel
theorem dX6_nextToken_162 : decode cX6_nextToken 162 = .ok (.invokestatic 180, 3) := by decide +kernel
theorem dX6_nextToken_165 : decode cX6_nextToken 165 = .ok (.ifCond .eq 56, 3) := by decide +kernel
theorem dX6_nextToken_168 : decode cX6_nextToken 168 = .ok (.aload_n 0, 1) := by decide +kernel
theorem dX6_nextToken_169 : decode cX6_nextToken 169 = .ok (.aload_n 0, 1) := by decide +kernel
theorem dX6_nextToken_170 : decode cX6_nextToken 170 = .ok (.getfield 186, 3) := by decide +kernel
theorem dX6_nextToken_173 : decode cX6_nextToken 173 = .ok (.sipush 999, 3) := by decide +kernel
theorem dX6_nextToken_176 : decode cX6_nextToken 176 = .ok (.if_icmp .le 10, 3) := by decide +kernel
theorem dX6_nextToken_179 : decode cX6_nextToken 179 = .ok (.aload_n 0, 1) := by decide +kernel
theorem dX6_nextToken_180 : decode cX6_nextToken 180 = .ok (.getfield 186, 3) := by decide +kernel
theorem dX6_nextToken_183 : decode cX6_nextToken 183 = .ok (.goto 22, 3) := by decide +kernel
theorem dX6_nextToken_186 : decode cX6_nextToken 186 = .ok (.bipush 10, 2) := by decide +kernel
theorem dX6_nextToken_188 : decode cX6_nextToken 188 = .ok (.aload_n 0, 1) := by decide +kernel
theorem dX6_nextToken_189 : decode cX6_nextToken 189 = .ok (.getfield 186, 3) := by decide +kernel
theorem dX6_nextToken_192 : decode cX6_nextToken 192 = .ok (.imul, 1) := by decide +kernel
theorem dX6_nextToken_193 : decode cX6_nextToken 193 = .ok (.aload_n 0, 1) := by decide +kernel
theorem dX6_nextToken_194 : decode cX6_nextToken 194 = .ok (.aload_n 0, 1) := by decide +kernel
theorem dX6_nextToken_195 : decode cX6_nextToken 195 = .ok (.getfield 168, 3) := by decide +kernel
theorem dX6_nextToken_198 : decode cX6_nextToken 198 = .ok (.invokevirtual 174, 3) := by decide +kernel
theorem dX6_nextToken_201 : decode cX6_nextToken 201 = .ok (.iadd, 1) := by decide +kernel
theorem dX6_nextToken_202 : decode cX6_nextToken 202 = .ok (.bipush 48, 2) := by decide +kernel
theorem dX6_nextToken_204 : decode cX6_nextToken 204 = .ok (.isub, 1) := by decide +kernel
theorem dX6_nextToken_205 : decode cX6_nextToken 205 = .ok (.putfield 186, 3) := by decide +kernel
theorem dX6_nextToken_208 : decode cX6_nextToken 208 = .ok (.aload_n 0, 1) := by decide +kernel
theorem dX6_nextToken_209 : decode cX6_nextToken 209 = .ok (.dup, 1) := by decide +kernel
theorem dX6_nextToken_210 : decode cX6_nextToken 210 = .ok (.getfield 168, 3) := by decide +kernel
theorem dX6_nextToken_213 : decode cX6_nextToken 213 = .ok (.iconst 1, 1) := by decide +kernel
theorem dX6_nextToken_214 : decode cX6_nextToken 214 = .ok (.iadd, 1) := by decide +kernel
theorem dX6_nextToken_215 : decode cX6_nextToken 215 = .ok (.putfield 168, 3) := by decide +kernel
theorem dX6_nextToken_218 : decode cX6_nextToken 218 = .ok (.goto (-72), 3) := by decide +kernel
theorem dX6_nextToken_221 : decode cX6_nextToken 221 = .ok (.aload_n 0, 1) := by decide +kernel
theorem dX6_nextToken_222 : decode cX6_nextToken 222 = .ok (.dup, 1) := by decide +kernel
theorem dX6_nextToken_223 : decode cX6_nextToken 223 = .ok (.getfield 168, 3) := by decide +kernel
theorem dX6_nextToken_226 : decode cX6_nextToken 226 = .ok (.aload_n 0, 1) := by decide +kernel
theorem dX6_nextToken_227 : decode cX6_nextToken 227 = .ok (.getfield 183, 3) := by decide +kernel
theorem dX6_nextToken_230 : decode cX6_nextToken 230 = .ok (.iconst 2, 1) := by decide +kernel
theorem dX6_nextToken_231 : decode cX6_nextToken 231 = .ok (.if_icmp .le 7, 3) := by decide +kernel
theorem dX6_nextToken_234 : decode cX6_nextToken 234 = .ok (.iconst 1, 1) := by decide +kernel
theorem dX6_nextToken_235 : decode cX6_nextToken 235 = .ok (.goto 4, 3) := by decide +kernel
theorem dX6_nextToken_238 : decode cX6_nextToken 238 = .ok (.iconst 0, 1) := by decide +kernel
theorem dX6_nextToken_239 : decode cX6_nextToken 239 = .ok (.iadd, 1) := by decide +kernel
theorem dX6_nextToken_240 : decode cX6_nextToken 240 = .ok (.putfield 168, 3) := by decide +kernel
theorem dX6_nextToken_243 : decode cX6_nextToken 243 = .ok (.return_, 1) := by decide +kernel
theorem dX6_has3_0 : decode cX6_has3 0 = .ok (.aload_n 0, 1) := by decide +kernel
theorem dX6_has3_1 : decode cX6_has3 1 = .ok (.aload_n 0, 1) := by decide +kernel
theorem dX6_has3_2 : decode cX6_has3 2 = .ok (.getfield 171, 3) := by decide +kernel
theorem dX6_has3_5 : decode cX6_has3 5 = .ok (.iload_n 1, 1) := by decide +kernel
theorem dX6_has3_6 : decode cX6_has3 6 = .ok (.iadd, 1) := by decide +kernel
theorem dX6_has3_7 : decode cX6_has3 7 = .ok (.invokevirtual 174, 3) := by decide +kernel
theorem dX6_has3_10 : decode cX6_has3 10 = .ok (.iload_n 2, 1) := by decide +kernel
theorem dX6_has3_11 : decode cX6_has3 11 = .ok (.if_icmp .ne 40, 3) := by decide +kernel
theorem dX6_has3_14 : decode cX6_has3 14 = .ok (.aload_n 0, 1) := by decide +kernel
theorem dX6_has3_15 : decode cX6_has3 15 = .ok (.aload_n 0, 1) := by decide +kernel
theorem dX6_has3_16 : decode cX6_has3 16 = .ok (.getfield 171, 3) := by decide +kernel
theorem dX6_has3_19 : decode cX6_has3 19 = .ok (.iload_n 1, 1) := by decide +kernel
theorem dX6_has3_20 : decode cX6_has3 20 = .ok (.iadd, 1) := by decide +kernel
theorem dX6_has3_21 : decode cX6_has3 21 = .ok (.iconst 1, 1) := by decide +kernel
theorem dX6_has3_22 : decode cX6_has3 22 = .ok (.iadd, 1) := by decide +kernel
theorem dX6_has3_23 : decode cX6_has3 23 = .ok (.invokevirtual 174, 3) := by decide +kernel
theorem dX6_has3_26 : decode cX6_has3 26 = .ok (.iload_n 3, 1) := by decide +kernel
theorem dX6_has3_27 : decode cX6_has3 27 = .ok (.if_icmp .ne 24, 3) := by decide +kernel
theorem dX6_has3_30 : decode cX6_has3 30 = .ok (.aload_n 0, 1) := by decide +kernel
theorem dX6_has3_31 : decode cX6_has3 31 = .ok (.aload_n 0, 1) := by decide +kernel
theorem dX6_has3_32 : decode cX6_has3 32 = .ok (.getfield 171, 3) := by decide +kernel
theorem dX6_has3_35 : decode cX6_has3 35 = .ok (.iload_n 1, 1) := by decide +kernel
theorem dX6_has3_36 : decode cX6_has3 36 = .ok (.iadd, 1) := by decide +kernel
theorem dX6_has3_37 : decode cX6_has3 37 = .ok (.iconst 2, 1) := by decide +kernel
theorem dX6_has3_38 : decode cX6_has3 38 = .ok (.iadd, 1) := by decide +kernel
theorem dX6_has3_39 : decode cX6_has3 39 = .ok (.invokevirtual 174, 3) := by decide +kernel
theorem dX6_has3_42 : decode cX6_has3 42 = .ok (.iload 4, 2) := by decide +kernel
theorem dX6_has3_44 : decode cX6_has3 44 = .ok (.if_icmp .ne 7, 3) := by decide +kernel
theorem dX6_has3_47 : decode cX6_has3 47 = .ok (.iconst 1, 1) := by decide +kernel
theorem dX6_has3_48 : decode cX6_has3 48 = .ok (.goto 4, 3) := by decide +kernel
theorem dX6_has3_51 : decode cX6_has3 51 = .ok (.iconst 0, 1) := by decide +kernel
theorem dX6_has3_52 : decode cX6_has3 52 = .ok (.ireturn, 1) := by decide +kernel
theorem dX6_isWord_0 : decode cX6_isWord 0 = .ok (.aload_n 0, 1) := by decide +kernel
theorem dX6_isWord_1 : decode cX6_isWord 1 = .ok (.getfield 183, 3) := by decide +kernel
theorem dX6_isWord_4 : decode cX6_isWord 4 = .ok (.iconst 1, 1) := by decide +kernel
theorem dX6_isWord_5 : decode cX6_isWord 5 = .ok (.if_icmp .ne 20, 3) := by decide +kernel
theorem dX6_isWord_8 : decode cX6_isWord 8 = .ok (.aload_n 0, 1) := by decide +kernel
theorem dX6_isWord_9 : decode cX6_isWord 9 = .ok (.getfield 168, 3) := by decide +kernel
theorem dX6_isWord_12 : decode cX6_isWord 12 = .ok (.aload_n 0, 1) := by decide +kernel
theorem dX6_isWord_13 : decode cX6_isWord 13 = .ok (.getfield 171, 3) := by decide +kernel
theorem dX6_isWord_16 : decode cX6_isWord 16 = .ok (.isub, 1) := by decide +kernel
theorem dX6_isWord_17 : decode cX6_isWord 17 = .ok (.iload_n 1, 1) := by decide +kernel
theorem dX6_isWord_18 : decode cX6_isWord 18 = .ok (.if_icmp .ne 7, 3) := by decide +kernel
theorem dX6_isWord_21 : decode cX6_isWord 21 = .ok (.iconst 1, 1) := by decide +kernel
theorem dX6_isWord_22 : decode cX6_isWord 22 = .ok (.goto 4, 3) := by decide +kernel
theorem dX6_isWord_25 : decode cX6_isWord 25 = .ok (.iconst 0, 1) := by decide +kernel
theorem dX6_isWord_26 : decode cX6_isWord 26 = .ok (.ireturn, 1) := by decide +kernel
theorem dX6_fails_0 : decode cX6_fails 0 = .ok (.aload_n 0, 1) := by decide +kernel
theorem dX6_fails_1 : decode cX6_fails 1 = .ok (.aload_n 0, 1) := by decide +kernel
theorem dX6_fails_2 : decode cX6_fails 2 = .ok (.getfield 171, 3) := by decide +kernel
theorem dX6_fails_5 : decode cX6_fails 5 = .ok (.putfield 189, 3) := by decide +kernel
theorem dX6_fails_8 : decode cX6_fails 8 = .ok (.iconst 0, 1) := by decide +kernel
theorem dX6_fails_9 : decode cX6_fails 9 = .ok (.ireturn, 1) := by decide +kernel
theorem dX6_isFour_0 : decode cX6_isFour 0 = .ok (.aload_n 0, 1) := by decide +kernel
theorem dX6_isFour_1 : decode cX6_isFour 1 = .ok (.iconst 4, 1) := by decide +kernel
theorem dX6_isFour_2 : decode cX6_isFour 2 = .ok (.invokevirtual 192, 3) := by decide +kernel
theorem dX6_isFour_5 : decode cX6_isFour 5 = .ok (.ifCond .eq 30, 3) := by decide +kernel
theorem dX6_isFour_8 : decode cX6_isFour 8 = .ok (.aload_n 0, 1) := by decide +kernel
theorem dX6_isFour_9 : decode cX6_isFour 9 = .ok (.iconst 0, 1) := by decide +kernel
theorem dX6_isFour_10 : decode cX6_isFour 10 = .ok (.iload_n 1, 1) := by decide +kernel
theorem dX6_isFour_11 : decode cX6_isFour 11 = .ok (.iload_n 2, 1) := by decide +kernel
theorem dX6_isFour_12 : decode cX6_isFour 12 = .ok (.iload_n 3, 1) := by decide +kernel
theorem dX6_isFour_13 : decode cX6_isFour 13 = .ok (.invokevirtual 195, 3) := by decide +kernel
theorem dX6_isFour_16 : decode cX6_isFour 16 = .ok (.ifCond .eq 19, 3) := by decide +kernel
theorem dX6_isFour_19 : decode cX6_isFour 19 = .ok (.aload_n 0, 1) := by decide +kernel
theorem dX6_isFour_20 : decode cX6_isFour 20 = .ok (.iconst 1, 1) := by decide +kernel
theorem dX6_isFour_21 : decode cX6_isFour 21 = .ok (.iload_n 2, 1) := by decide +kernel
theorem dX6_isFour_22 : decode cX6_isFour 22 = .ok (.iload_n 3, 1) := by decide +kernel
theorem dX6_isFour_23 : decode cX6_isFour 23 = .ok (.iload 4, 2) := by decide +kernel
theorem dX6_isFour_25 : decode cX6_isFour 25 = .ok (.invokevirtual 195, 3) := by decide +kernel
theorem dX6_isFour_28 : decode cX6_isFour 28 = .ok (.ifCond .eq 7, 3) := by decide +kernel
theorem dX6_isFour_31 : decode cX6_isFour 31 = .ok (.iconst 1, 1) := by decide +kernel
theorem dX6_isFour_32 : decode cX6_isFour 32 = .ok (.goto 4, 3) := by decide +kernel
theorem dX6_isFour_35 : decode cX6_isFour 35 = .ok (.iconst 0, 1) := by decide +kernel
theorem dX6_isFour_36 : decode cX6_isFour 36 = .ok (.ireturn, 1) := by decide +kernel
theorem dX6_isFive_0 : decode cX6_isFive 0 = .ok (.aload_n 0, 1) := by decide +kernel
theorem dX6_isFive_1 : decode cX6_isFive 1 = .ok (.iconst 5, 1) := by decide +kernel
theorem dX6_isFive_2 : decode cX6_isFive 2 = .ok (.invokevirtual 192, 3) := by decide +kernel
theorem dX6_isFive_5 : decode cX6_isFive 5 = .ok (.ifCond .eq 31, 3) := by decide +kernel
theorem dX6_isFive_8 : decode cX6_isFive 8 = .ok (.aload_n 0, 1) := by decide +kernel
theorem dX6_isFive_9 : decode cX6_isFive 9 = .ok (.iconst 0, 1) := by decide +kernel
theorem dX6_isFive_10 : decode cX6_isFive 10 = .ok (.iload_n 1, 1) := by decide +kernel
theorem dX6_isFive_11 : decode cX6_isFive 11 = .ok (.iload_n 2, 1) := by decide +kernel
theorem dX6_isFive_12 : decode cX6_isFive 12 = .ok (.iload_n 3, 1) := by decide +kernel
theorem dX6_isFive_13 : decode cX6_isFive 13 = .ok (.invokevirtual 195, 3) := by decide +kernel
theorem dX6_isFive_16 : decode cX6_isFive 16 = .ok (.ifCond .eq 20, 3) := by decide +kernel
theorem dX6_isFive_19 : decode cX6_isFive 19 = .ok (.aload_n 0, 1) := by decide +kernel
theorem dX6_isFive_20 : decode cX6_isFive 20 = .ok (.iconst 2, 1) := by decide +kernel
theorem dX6_isFive_21 : decode cX6_isFive 21 = .ok (.iload_n 3, 1) := by decide +kernel
theorem dX6_isFive_22 : decode cX6_isFive 22 = .ok (.iload 4, 2) := by decide +kernel
theorem dX6_isFive_24 : decode cX6_isFive 24 = .ok (.iload 5, 2) := by decide +kernel
theorem dX6_isFive_26 : decode cX6_isFive 26 = .ok (.invokevirtual 195, 3) := by decide +kernel
theorem dX6_isFive_29 : decode cX6_isFive 29 = .ok (.ifCond .eq 7, 3) := by decide +kernel
theorem dX6_isFive_32 : decode cX6_isFive 32 = .ok (.iconst 1, 1) := by decide +kernel
theorem dX6_isFive_33 : decode cX6_isFive 33 = .ok (.goto 4, 3) := by decide +kernel
theorem dX6_isFive_36 : decode cX6_isFive 36 = .ok (.iconst 0, 1) := by decide +kernel
theorem dX6_isFive_37 : decode cX6_isFive 37 = .ok (.ireturn, 1) := by decide +kernel
theorem dX6_isSix_0 : decode cX6_isSix 0 = .ok (.aload_n 0, 1) := by decide +kernel
theorem dX6_isSix_1 : decode cX6_isSix 1 = .ok (.bipush 6, 2) := by decide +kernel
theorem dX6_isSix_3 : decode cX6_isSix 3 = .ok (.invokevirtual 192, 3) := by decide +kernel
theorem dX6_isSix_6 : decode cX6_isSix 6 = .ok (.ifCond .eq 32, 3) := by decide +kernel
theorem dX6_isSix_9 : decode cX6_isSix 9 = .ok (.aload_n 0, 1) := by decide +kernel
theorem dX6_isSix_10 : decode cX6_isSix 10 = .ok (.iconst 0, 1) := by decide +kernel
theorem dX6_isSix_11 : decode cX6_isSix 11 = .ok (.iload_n 1, 1) := by decide +kernel
theorem dX6_isSix_12 : decode cX6_isSix 12 = .ok (.iload_n 2, 1) := by decide +kernel
theorem dX6_isSix_13 : decode cX6_isSix 13 = .ok (.iload_n 3, 1) := by decide +kernel
theorem dX6_isSix_14 : decode cX6_isSix 14 = .ok (.invokevirtual 195, 3) := by decide +kernel
theorem dX6_isSix_17 : decode cX6_isSix 17 = .ok (.ifCond .eq 21, 3) := by decide +kernel
theorem dX6_isSix_20 : decode cX6_isSix 20 = .ok (.aload_n 0, 1) := by decide +kernel
theorem dX6_isSix_21 : decode cX6_isSix 21 = .ok (.iconst 3, 1) := by decide +kernel
theorem dX6_isSix_22 : decode cX6_isSix 22 = .ok (.iload 4, 2) := by decide +kernel
theorem dX6_isSix_24 : decode cX6_isSix 24 = .ok (.iload 5, 2) := by decide +kernel
theorem dX6_isSix_26 : decode cX6_isSix 26 = .ok (.iload 6, 2) := by decide +kernel
theorem dX6_isSix_28 : decode cX6_isSix 28 = .ok (.invokevirtual 195, 3) := by decide +kernel
theorem dX6_isSix_31 : decode cX6_isSix 31 = .ok (.ifCond .eq 7, 3) := by decide +kernel
theorem dX6_isSix_34 : decode cX6_isSix 34 = .ok (.iconst 1, 1) := by decide +kernel
theorem dX6_isSix_35 : decode cX6_isSix 35 = .ok (.goto 4, 3) := by decide +kernel
theorem dX6_isSix_38 : decode cX6_isSix 38 = .ok (.iconst 0, 1) := by decide +kernel
theorem dX6_isSix_39 : decode cX6_isSix 39 = .ok (.ireturn, 1) := by decide +kernel
theorem dX6_isNumber_0 : decode cX6_isNumber 0 = .ok (.aload_n 0, 1) := by decide +kernel
theorem dX6_isNumber_1 : decode cX6_isNumber 1 = .ok (.getfield 183, 3) := by decide +kernel
theorem dX6_isNumber_4 : decode cX6_isNumber 4 = .ok (.iconst 2, 1) := by decide +kernel
theorem dX6_isNumber_5 : decode cX6_isNumber 5 = .ok (.if_icmp .ne 18, 3) := by decide +kernel
theorem dX6_isNumber_8 : decode cX6_isNumber 8 = .ok (.aload_n 0, 1) := by decide +kernel
theorem dX6_isNumber_9 : decode cX6_isNumber 9 = .ok (.getfield 186, 3) := by decide +kernel
theorem dX6_isNumber_12 : decode cX6_isNumber 12 = .ok (.i2l, 1) := by decide +kernel
theorem dX6_isNumber_13 : decode cX6_isNumber 13 = .ok (.iload_n 1, 1) := by decide +kernel
theorem dX6_isNumber_14 : decode cX6_isNumber 14 = .ok (.i2l, 1) := by decide +kernel
theorem dX6_isNumber_15 : decode cX6_isNumber 15 = .ok (.iload_n 2, 1) := by decide +kernel
theorem dX6_isNumber_16 : decode cX6_isNumber 16 = .ok (.i2l, 1) := by decide +kernel
theorem dX6_isNumber_17 : decode cX6_isNumber 17 = .ok (.invokestatic 42, 3) := by decide +kernel
theorem dX6_isNumber_20 : decode cX6_isNumber 20 = .ok (.ifCond .ne 10, 3) := by decide +kernel
theorem dX6_isNumber_23 : decode cX6_isNumber 23 = .ok (.aload_n 0, 1) := by decide +kernel
theorem dX6_isNumber_24 : decode cX6_isNumber 24 = .ok (.invokevirtual 199, 3) := by decide +kernel
theorem dX6_isNumber_27 : decode cX6_isNumber 27 = .ok (.ifCond .eq 7, 3) := by decide +kernel
theorem dX6_isNumber_30 : decode cX6_isNumber 30 = .ok (.iconst 1, 1) := by decide +kernel
theorem dX6_isNumber_31 : decode cX6_isNumber 31 = .ok (.goto 4, 3) := by decide +kernel
theorem dX6_isNumber_34 : decode cX6_isNumber 34 = .ok (.iconst 0, 1) := by decide +kernel
theorem dX6_isNumber_35 : decode cX6_isNumber 35 = .ok (.ireturn, 1) := by decide +kernel
theorem dX6_kindHere_0 : decode cX6_kindHere 0 = .ok (.aload_n 0, 1) := by decide +kernel
theorem dX6_kindHere_1 : decode cX6_kindHere 1 = .ok (.bipush 108, 2) := by decide +kernel
theorem dX6_kindHere_3 : decode cX6_kindHere 3 = .ok (.bipush 101, 2) := by decide +kernel
theorem dX6_kindHere_5 : decode cX6_kindHere 5 = .ok (.bipush 116, 2) := by decide +kernel
theorem dX6_kindHere_7 : decode cX6_kindHere 7 = .ok (.bipush 116, 2) := by decide +kernel
theorem dX6_kindHere_9 : decode cX6_kindHere 9 = .ok (.bipush 101, 2) := by decide +kernel
theorem dX6_kindHere_11 : decode cX6_kindHere 11 = .ok (.bipush 114, 2) := by decide +kernel
theorem dX6_kindHere_13 : decode cX6_kindHere 13 = .ok (.invokevirtual 202, 3) := by decide +kernel
theorem dX6_kindHere_16 : decode cX6_kindHere 16 = .ok (.ifCond .eq 5, 3) := by decide +kernel
theorem dX6_kindHere_19 : decode cX6_kindHere 19 = .ok (.iconst 0, 1) := by decide +kernel
theorem dX6_kindHere_20 : decode cX6_kindHere 20 = .ok (.ireturn, 1) := by decide +kernel
theorem dX6_kindHere_21 : decode cX6_kindHere 21 = .ok (.aload_n 0, 1) := by decide +kernel
theorem dX6_kindHere_22 : decode cX6_kindHere 22 = .ok (.bipush 104, 2) := by decide +kernel
theorem dX6_kindHere_24 : decode cX6_kindHere 24 = .ok (.bipush 97, 2) := by decide +kernel
theorem dX6_kindHere_26 : decode cX6_kindHere 26 = .ok (.bipush 115, 2) := by decide +kernel
theorem dX6_kindHere_28 : decode cX6_kindHere 28 = .ok (.bipush 116, 2) := by decide +kernel
theorem dX6_kindHere_30 : decode cX6_kindHere 30 = .ok (.bipush 121, 2) := by decide +kernel
theorem dX6_kindHere_32 : decode cX6_kindHere 32 = .ok (.invokevirtual 206, 3) := by decide +kernel
theorem dX6_kindHere_35 : decode cX6_kindHere 35 = .ok (.ifCond .eq 5, 3) := by decide +kernel
theorem dX6_kindHere_38 : decode cX6_kindHere 38 = .ok (.iconst 1, 1) := by decide +kernel
theorem dX6_kindHere_39 : decode cX6_kindHere 39 = .ok (.ireturn, 1) := by decide +kernel
theorem dX6_kindHere_40 : decode cX6_kindHere 40 = .ok (.aload_n 0, 1) := by decide +kernel
theorem dX6_kindHere_41 : decode cX6_kindHere 41 = .ok (.bipush 115, 2) := by decide +kernel
theorem dX6_kindHere_43 : decode cX6_kindHere 43 = .ok (.bipush 101, 2) := by decide +kernel
theorem dX6_kindHere_45 : decode cX6_kindHere 45 = .ok (.bipush 97, 2) := by decide +kernel
theorem dX6_kindHere_47 : decode cX6_kindHere 47 = .ok (.bipush 108, 2) := by decide +kernel
theorem dX6_kindHere_49 : decode cX6_kindHere 49 = .ok (.bipush 101, 2) := by decide +kernel
theorem dX6_kindHere_51 : decode cX6_kindHere 51 = .ok (.bipush 100, 2) := by decide +kernel
theorem dX6_kindHere_53 : decode cX6_kindHere 53 = .ok (.invokevirtual 202, 3) := by decide +kernel
theorem dX6_kindHere_56 : decode cX6_kindHere 56 = .ok (.ifCond .eq 5, 3) := by decide +kernel
theorem dX6_kindHere_59 : decode cX6_kindHere 59 = .ok (.iconst 2, 1) := by decide +kernel
theorem dX6_kindHere_60 : decode cX6_kindHere 60 = .ok (.ireturn, 1) := by decide +kernel
theorem dX6_kindHere_61 : decode cX6_kindHere 61 = .ok (.aload_n 0, 1) := by decide +kernel
theorem dX6_kindHere_62 : decode cX6_kindHere 62 = .ok (.bipush 102, 2) := by decide +kernel
theorem dX6_kindHere_64 : decode cX6_kindHere 64 = .ok (.bipush 111, 2) := by decide +kernel
theorem dX6_kindHere_66 : decode cX6_kindHere 66 = .ok (.bipush 114, 2) := by decide +kernel
theorem dX6_kindHere_68 : decode cX6_kindHere 68 = .ok (.bipush 103, 2) := by decide +kernel
theorem dX6_kindHere_70 : decode cX6_kindHere 70 = .ok (.bipush 101, 2) := by decide +kernel
theorem dX6_kindHere_72 : decode cX6_kindHere 72 = .ok (.bipush 100, 2) := by decide +kernel
theorem dX6_kindHere_74 : decode cX6_kindHere 74 = .ok (.invokevirtual 202, 3) := by decide +kernel
theorem dX6_kindHere_77 : decode cX6_kindHere 77 = .ok (.ifCond .eq 5, 3) := by decide +kernel
theorem dX6_kindHere_80 : decode cX6_kindHere 80 = .ok (.iconst 3, 1) := by decide +kernel
theorem dX6_kindHere_81 : decode cX6_kindHere 81 = .ok (.ireturn, 1) := by decide +kernel
theorem dX6_kindHere_82 : decode cX6_kindHere 82 = .ok (.aload_n 0, 1) := by decide +kernel
theorem dX6_kindHere_83 : decode cX6_kindHere 83 = .ok (.bipush 99, 2) := by decide +kernel
theorem dX6_kindHere_85 : decode cX6_kindHere 85 = .ok (.bipush 111, 2) := by decide +kernel
theorem dX6_kindHere_87 : decode cX6_kindHere 87 = .ok (.bipush 112, 2) := by decide +kernel
theorem dX6_kindHere_89 : decode cX6_kindHere 89 = .ok (.bipush 105, 2) := by decide +kernel
theorem dX6_kindHere_91 : decode cX6_kindHere 91 = .ok (.bipush 101, 2) := by decide +kernel
theorem dX6_kindHere_93 : decode cX6_kindHere 93 = .ok (.bipush 100, 2) := by decide +kernel
theorem dX6_kindHere_95 : decode cX6_kindHere 95 = .ok (.invokevirtual 202, 3) := by decide +kernel
theorem dX6_kindHere_98 : decode cX6_kindHere 98 = .ok (.ifCond .eq 5, 3) := by decide +kernel
theorem dX6_kindHere_101 : decode cX6_kindHere 101 = .ok (.iconst 4, 1) := by decide +kernel
theorem dX6_kindHere_102 : decode cX6_kindHere 102 = .ok (.ireturn, 1) := by decide +kernel
theorem dX6_kindHere_103 : decode cX6_kindHere 103 = .ok (.aload_n 0, 1) := by decide +kernel
theorem dX6_kindHere_104 : decode cX6_kindHere 104 = .ok (.bipush 99, 2) := by decide +kernel
theorem dX6_kindHere_106 : decode cX6_kindHere 106 = .ok (.bipush 97, 2) := by decide +kernel
theorem dX6_kindHere_108 : decode cX6_kindHere 108 = .ok (.bipush 114, 2) := by decide +kernel
theorem dX6_kindHere_110 : decode cX6_kindHere 110 = .ok (.bipush 100, 2) := by decide +kernel
theorem dX6_kindHere_112 : decode cX6_kindHere 112 = .ok (.invokevirtual 210, 3) := by decide +kernel
theorem dX6_kindHere_115 : decode cX6_kindHere 115 = .ok (.ifCond .eq 5, 3) := by decide +kernel
theorem dX6_kindHere_118 : decode cX6_kindHere 118 = .ok (.iconst 5, 1) := by decide +kernel
theorem dX6_kindHere_119 : decode cX6_kindHere 119 = .ok (.ireturn, 1) := by decide +kernel
theorem dX6_kindHere_120 : decode cX6_kindHere 120 = .ok (.aload_n 0, 1) := by decide +kernel
theorem dX6_kindHere_121 : decode cX6_kindHere 121 = .ok (.bipush 108, 2) := by decide +kernel
theorem dX6_kindHere_123 : decode cX6_kindHere 123 = .ok (.bipush 97, 2) := by decide +kernel
theorem dX6_kindHere_125 : decode cX6_kindHere 125 = .ok (.bipush 116, 2) := by decide +kernel
theorem dX6_kindHere_127 : decode cX6_kindHere 127 = .ok (.bipush 101, 2) := by decide +kernel
theorem dX6_kindHere_129 : decode cX6_kindHere 129 = .ok (.invokevirtual 210, 3) := by decide +kernel
theorem dX6_kindHere_132 : decode cX6_kindHere 132 = .ok (.ifCond .eq 8, 3) := by decide +kernel
theorem dX6_kindHere_135 : decode cX6_kindHere 135 = .ok (.bipush 6, 2) := by decide +kernel
theorem dX6_kindHere_137 : decode cX6_kindHere 137 = .ok (.goto 4, 3) := by decide +kernel
theorem dX6_kindHere_140 : decode cX6_kindHere 140 = .ok (.iconst (-1), 1) := by decide +kernel
theorem dX6_kindHere_141 : decode cX6_kindHere 141 = .ok (.ireturn, 1) := by decide +kernel
theorem dX6_townsHere_0 : decode cX6_townsHere 0 = .ok (.aload_n 0, 1) := by decide +kernel
theorem dX6_townsHere_1 : decode cX6_townsHere 1 = .ok (.invokevirtual 213, 3) := by decide +kernel
theorem dX6_townsHere_4 : decode cX6_townsHere 4 = .ok (.aload_n 0, 1) := by decide +kernel
theorem dX6_townsHere_5 : decode cX6_townsHere 5 = .ok (.iconst 0, 1) := by decide +kernel
theorem dX6_townsHere_6 : decode cX6_townsHere 6 = .ok (.bipush 7, 2) := by decide +kernel
theorem dX6_townsHere_8 : decode cX6_townsHere 8 = .ok (.invokevirtual 216, 3) := by decide +kernel
theorem dX6_townsHere_11 : decode cX6_townsHere 11 = .ok (.ifCond .ne 5, 3) := by decide +kernel
theorem dX6_townsHere_14 : decode cX6_townsHere 14 = .ok (.iconst 0, 1) := by decide +kernel
theorem dX6_townsHere_15 : decode cX6_townsHere 15 = .ok (.ireturn, 1) := by decide +kernel
theorem dX6_townsHere_16 : decode cX6_townsHere 16 = .ok (.aload_n 0, 1) := by decide +kernel
theorem dX6_townsHere_17 : decode cX6_townsHere 17 = .ok (.aload_n 0, 1) := by decide +kernel
theorem dX6_townsHere_18 : decode cX6_townsHere 18 = .ok (.getfield 186, 3) := by decide +kernel
theorem dX6_townsHere_21 : decode cX6_townsHere 21 = .ok (.putfield 219, 3) := by decide +kernel
theorem dX6_townsHere_24 : decode cX6_townsHere 24 = .ok (.aload_n 0, 1) := by decide +kernel
theorem dX6_townsHere_25 : decode cX6_townsHere 25 = .ok (.invokevirtual 213, 3) := by decide +kernel
theorem dX6_townsHere_28 : decode cX6_townsHere 28 = .ok (.aload_n 0, 1) := by decide +kernel
theorem dX6_townsHere_29 : decode cX6_townsHere 29 = .ok (.iconst 0, 1) := by decide +kernel
theorem dX6_townsHere_30 : decode cX6_townsHere 30 = .ok (.bipush 7, 2) := by decide +kernel
theorem dX6_townsHere_32 : decode cX6_townsHere 32 = .ok (.invokevirtual 216, 3) := by decide +kernel
theorem dX6_townsHere_35 : decode cX6_townsHere 35 = .ok (.ifCond .eq 14, 3) := by decide +kernel
theorem dX6_townsHere_38 : decode cX6_townsHere 38 = .ok (.aload_n 0, 1) := by decide +kernel
theorem dX6_townsHere_39 : decode cX6_townsHere 39 = .ok (.getfield 186, 3) := by decide +kernel
theorem dX6_townsHere_42 : decode cX6_townsHere 42 = .ok (.aload_n 0, 1) := by decide +kernel
theorem dX6_townsHere_43 : decode cX6_townsHere 43 = .ok (.getfield 219, 3) := by decide +kernel
theorem dX6_townsHere_46 : decode cX6_townsHere 46 = .ok (.if_icmp .ne 8, 3) := by decide +kernel
theorem dX6_townsHere_49 : decode cX6_townsHere 49 = .ok (.aload_n 0, 1) := by decide +kernel
theorem dX6_townsHere_50 : decode cX6_townsHere 50 = .ok (.invokevirtual 199, 3) := by decide +kernel
theorem dX6_townsHere_53 : decode cX6_townsHere 53 = .ok (.ireturn, 1) := by decide +kernel
theorem dX6_townsHere_54 : decode cX6_townsHere 54 = .ok (.aload_n 0, 1) := by decide +kernel
theorem dX6_townsHere_55 : decode cX6_townsHere 55 = .ok (.aload_n 0, 1) := by decide +kernel
theorem dX6_townsHere_56 : decode cX6_townsHere 56 = .ok (.getfield 186, 3) := by decide +kernel
theorem dX6_townsHere_59 : decode cX6_townsHere 59 = .ok (.putfield 222, 3) := by decide +kernel
theorem dX6_townsHere_62 : decode cX6_townsHere 62 = .ok (.aload_n 0, 1) := by decide +kernel
theorem dX6_townsHere_63 : decode cX6_townsHere 63 = .ok (.invokevirtual 213, 3) := by decide +kernel
theorem dX6_townsHere_66 : decode cX6_townsHere 66 = .ok (.iconst 1, 1) := by decide +kernel
theorem dX6_townsHere_67 : decode cX6_townsHere 67 = .ok (.ireturn, 1) := by decide +kernel
theorem dX6_daysHere_0 : decode cX6_daysHere 0 = .ok (.aload_n 0, 1) := by decide +kernel
theorem dX6_daysHere_1 : decode cX6_daysHere 1 = .ok (.bipush 100, 2) := by decide +kernel
theorem dX6_daysHere_3 : decode cX6_daysHere 3 = .ok (.bipush 97, 2) := by decide +kernel
theorem dX6_daysHere_5 : decode cX6_daysHere 5 = .ok (.bipush 121, 2) := by decide +kernel
theorem dX6_daysHere_7 : decode cX6_daysHere 7 = .ok (.bipush 115, 2) := by decide +kernel
theorem dX6_daysHere_9 : decode cX6_daysHere 9 = .ok (.invokevirtual 210, 3) := by decide +kernel
theorem dX6_daysHere_12 : decode cX6_daysHere 12 = .ok (.ifCond .ne 8, 3) := by decide +kernel
theorem dX6_daysHere_15 : decode cX6_daysHere 15 = .ok (.aload_n 0, 1) := by decide +kernel
theorem dX6_daysHere_16 : decode cX6_daysHere 16 = .ok (.invokevirtual 199, 3) := by decide +kernel
theorem dX6_daysHere_19 : decode cX6_daysHere 19 = .ok (.ireturn, 1) := by decide +kernel
theorem dX6_daysHere_20 : decode cX6_daysHere 20 = .ok (.aload_n 0, 1) := by decide +kernel
theorem dX6_daysHere_21 : decode cX6_daysHere 21 = .ok (.invokevirtual 213, 3) := by decide +kernel
theorem dX6_daysHere_24 : decode cX6_daysHere 24 = .ok (.aload_n 0, 1) := by decide +kernel
theorem dX6_daysHere_25 : decode cX6_daysHere 25 = .ok (.getfield 183, 3) := by decide +kernel
theorem dX6_daysHere_28 : decode cX6_daysHere 28 = .ok (.iconst 5, 1) := by decide +kernel
theorem dX6_daysHere_29 : decode cX6_daysHere 29 = .ok (.if_icmp .ne 7, 3) := by decide +kernel
theorem dX6_daysHere_32 : decode cX6_daysHere 32 = .ok (.iconst 1, 1) := by decide +kernel
theorem dX6_daysHere_33 : decode cX6_daysHere 33 = .ok (.goto 4, 3) := by decide +kernel
theorem dX6_daysHere_36 : decode cX6_daysHere 36 = .ok (.iconst 0, 1) := by decide +kernel
theorem dX6_daysHere_37 : decode cX6_daysHere 37 = .ok (.istore_n 1, 1) := by decide +kernel
theorem dX6_daysHere_38 : decode cX6_daysHere 38 = .ok (.iload_n 1, 1) := by decide +kernel
theorem dX6_daysHere_39 : decode cX6_daysHere 39 = .ok (.ifCond .eq 7, 3) := by decide +kernel
theorem dX6_daysHere_42 : decode cX6_daysHere 42 = .ok (.aload_n 0, 1) := by decide +kernel
theorem dX6_daysHere_43 : decode cX6_daysHere 43 = .ok (.invokevirtual 213, 3) := by decide +kernel
theorem dX6_daysHere_46 : decode cX6_daysHere 46 = .ok (.aload_n 0, 1) := by decide +kernel
theorem dX6_daysHere_47 : decode cX6_daysHere 47 = .ok (.iconst 0, 1) := by decide +kernel
theorem dX6_daysHere_48 : decode cX6_daysHere 48 = .ok (.bipush 99, 2) := by decide +kernel
theorem dX6_daysHere_50 : decode cX6_daysHere 50 = .ok (.invokevirtual 216, 3) := by decide +kernel
theorem dX6_daysHere_53 : decode cX6_daysHere 53 = .ok (.ifCond .ne 5, 3) := by decide +kernel
theorem dX6_daysHere_56 : decode cX6_daysHere 56 = .ok (.iconst 0, 1) := by decide +kernel
theorem dX6_daysHere_57 : decode cX6_daysHere 57 = .ok (.ireturn, 1) := by decide +kernel
theorem dX6_daysHere_58 : decode cX6_daysHere 58 = .ok (.aload_n 0, 1) := by decide +kernel
theorem dX6_daysHere_59 : decode cX6_daysHere 59 = .ok (.iload_n 1, 1) := by decide +kernel
theorem dX6_daysHere_60 : decode cX6_daysHere 60 = .ok (.ifCond .eq 11, 3) := by decide +kernel
theorem dX6_daysHere_63 : decode cX6_daysHere 63 = .ok (.aload_n 0, 1) := by decide +kernel
theorem dX6_daysHere_64 : decode cX6_daysHere 64 = .ok (.getfield 186, 3) := by decide +kernel
theorem dX6_daysHere_67 : decode cX6_daysHere 67 = .ok (.ineg, 1) := by decide +kernel
theorem dX6_daysHere_68 : decode cX6_daysHere 68 = .ok (.goto 7, 3) := by decide +kernel
theorem dX6_daysHere_71 : decode cX6_daysHere 71 = .ok (.aload_n 0, 1) := by decide +kernel
theorem dX6_daysHere_72 : decode cX6_daysHere 72 = .ok (.getfield 186, 3) := by decide +kernel
theorem dX6_daysHere_75 : decode cX6_daysHere 75 = .ok (.putfield 225, 3) := by decide +kernel
theorem dX6_daysHere_78 : decode cX6_daysHere 78 = .ok (.aload_n 0, 1) := by decide +kernel
theorem dX6_daysHere_79 : decode cX6_daysHere 79 = .ok (.invokevirtual 213, 3) := by decide +kernel
theorem dX6_daysHere_82 : decode cX6_daysHere 82 = .ok (.iconst 1, 1) := by decide +kernel
theorem dX6_daysHere_83 : decode cX6_daysHere 83 = .ok (.ireturn, 1) := by decide +kernel
theorem dX6_letterHere_0 : decode cX6_letterHere 0 = .ok (.aload_n 0, 1) := by decide +kernel
theorem dX6_letterHere_1 : decode cX6_letterHere 1 = .ok (.getfield 7, 3) := by decide +kernel
theorem dX6_letterHere_4 : decode cX6_letterHere 4 = .ok (.iconst 0, 1) := by decide +kernel
theorem dX6_letterHere_5 : decode cX6_letterHere 5 = .ok (.iaload, 1) := by decide +kernel
theorem dX6_letterHere_6 : decode cX6_letterHere 6 = .ok (.bipush 8, 2) := by decide +kernel
theorem dX6_letterHere_8 : decode cX6_letterHere 8 = .ok (.if_icmp .ne 8, 3) := by decide +kernel
theorem dX6_letterHere_11 : decode cX6_letterHere 11 = .ok (.aload_n 0, 1) := by decide +kernel
theorem dX6_letterHere_12 : decode cX6_letterHere 12 = .ok (.invokevirtual 199, 3) := by decide +kernel
theorem dX6_letterHere_15 : decode cX6_letterHere 15 = .ok (.ireturn, 1) := by decide +kernel
theorem dX6_letterHere_16 : decode cX6_letterHere 16 = .ok (.aload_n 0, 1) := by decide +kernel
theorem dX6_letterHere_17 : decode cX6_letterHere 17 = .ok (.invokevirtual 228, 3) := by decide +kernel
theorem dX6_letterHere_20 : decode cX6_letterHere 20 = .ok (.ifCond .eq 10, 3) := by decide +kernel
theorem dX6_letterHere_23 : decode cX6_letterHere 23 = .ok (.aload_n 0, 1) := by decide +kernel
theorem dX6_letterHere_24 : decode cX6_letterHere 24 = .ok (.invokevirtual 231, 3) := by decide +kernel
theorem dX6_letterHere_27 : decode cX6_letterHere 27 = .ok (.ifCond .ne 5, 3) := by decide +kernel
theorem dX6_letterHere_30 : decode cX6_letterHere 30 = .ok (.iconst 0, 1) := by decide +kernel
theorem dX6_letterHere_31 : decode cX6_letterHere 31 = .ok (.ireturn, 1) := by decide +kernel
theorem dX6_letterHere_32 : decode cX6_letterHere 32 = .ok (.aload_n 0, 1) := by decide +kernel
theorem dX6_letterHere_33 : decode cX6_letterHere 33 = .ok (.iload_n 1, 1) := by decide +kernel
theorem dX6_letterHere_34 : decode cX6_letterHere 34 = .ok (.aload_n 0, 1) := by decide +kernel
theorem dX6_letterHere_35 : decode cX6_letterHere 35 = .ok (.getfield 219, 3) := by decide +kernel
theorem dX6_letterHere_38 : decode cX6_letterHere 38 = .ok (.aload_n 0, 1) := by decide +kernel
theorem dX6_letterHere_39 : decode cX6_letterHere 39 = .ok (.getfield 222, 3) := by decide +kernel
theorem dX6_letterHere_42 : decode cX6_letterHere 42 = .ok (.aload_n 0, 1) := by decide +kernel
theorem dX6_letterHere_43 : decode cX6_letterHere 43 = .ok (.getfield 225, 3) := by decide +kernel
theorem dX6_letterHere_46 : decode cX6_letterHere 46 = .ok (.iconst 0, 1) := by decide +kernel
theorem dX6_letterHere_47 : decode cX6_letterHere 47 = .ok (.invokevirtual 81, 3) := by decide +kernel
theorem dX6_letterHere_50 : decode cX6_letterHere 50 = .ok (.iconst 5, 1) := by decide +kernel
theorem dX6_letterHere_51 : decode cX6_letterHere 51 = .ok (.bipush 6, 2) := by decide +kernel
theorem dX6_letterHere_53 : decode cX6_letterHere 53 = .ok (.aload_n 0, 1) := by decide +kernel
theorem dX6_letterHere_54 : decode cX6_letterHere 54 = .ok (.getfield 7, 3) := by decide +kernel
theorem dX6_letterHere_57 : decode cX6_letterHere 57 = .ok (.iconst 0, 1) := by decide +kernel
theorem dX6_letterHere_58 : decode cX6_letterHere 58 = .ok (.iaload, 1) := by decide +kernel
theorem dX6_letterHere_59 : decode cX6_letterHere 59 = .ok (.iconst 1, 1) := by decide +kernel
theorem dX6_letterHere_60 : decode cX6_letterHere 60 = .ok (.isub, 1) := by decide +kernel
theorem dX6_letterHere_61 : decode cX6_letterHere 61 = .ok (.imul, 1) := by decide +kernel
theorem dX6_letterHere_62 : decode cX6_letterHere 62 = .ok (.iadd, 1) := by decide +kernel
theorem dX6_letterHere_63 : decode cX6_letterHere 63 = .ok (.istore_n 2, 1) := by decide +kernel
theorem dX6_letterHere_64 : decode cX6_letterHere 64 = .ok (.aload_n 0, 1) := by decide +kernel
theorem dX6_letterHere_65 : decode cX6_letterHere 65 = .ok (.bipush 109, 2) := by decide +kernel
theorem dX6_letterHere_67 : decode cX6_letterHere 67 = .ok (.bipush 97, 2) := by decide +kernel
theorem dX6_letterHere_69 : decode cX6_letterHere 69 = .ok (.bipush 114, 2) := by decide +kernel
theorem dX6_letterHere_71 : decode cX6_letterHere 71 = .ok (.bipush 107, 2) := by decide +kernel
theorem dX6_letterHere_73 : decode cX6_letterHere 73 = .ok (.invokevirtual 210, 3) := by decide +kernel
theorem dX6_letterHere_76 : decode cX6_letterHere 76 = .ok (.ifCond .eq 36, 3) := by decide +kernel
theorem dX6_letterHere_79 : decode cX6_letterHere 79 = .ok (.aload_n 0, 1) := by decide +kernel
theorem dX6_letterHere_80 : decode cX6_letterHere 80 = .ok (.invokevirtual 213, 3) := by decide +kernel
theorem dX6_letterHere_83 : decode cX6_letterHere 83 = .ok (.aload_n 0, 1) := by decide +kernel
theorem dX6_letterHere_84 : decode cX6_letterHere 84 = .ok (.iconst 0, 1) := by decide +kernel
theorem dX6_letterHere_85 : decode cX6_letterHere 85 = .ok (.sipush 999, 3) := by decide +kernel
theorem dX6_letterHere_88 : decode cX6_letterHere 88 = .ok (.invokevirtual 216, 3) := by decide +kernel
theorem dX6_letterHere_91 : decode cX6_letterHere 91 = .ok (.ifCond .ne 5, 3) := by decide +kernel
theorem dX6_letterHere_94 : decode cX6_letterHere 94 = .ok (.iconst 0, 1) := by decide +kernel
theorem dX6_letterHere_95 : decode cX6_letterHere 95 = .ok (.ireturn, 1) := by decide +kernel
theorem dX6_letterHere_96 : decode cX6_letterHere 96 = .ok (.aload_n 0, 1) := by decide +kernel
theorem dX6_letterHere_97 : decode cX6_letterHere 97 = .ok (.getfield 7, 3) := by decide +kernel
theorem dX6_letterHere_100 : decode cX6_letterHere 100 = .ok (.iload_n 2, 1) := by decide +kernel
theorem dX6_letterHere_101 : decode cX6_letterHere 101 = .ok (.iconst 4, 1) := by decide +kernel
theorem dX6_letterHere_102 : decode cX6_letterHere 102 = .ok (.iadd, 1) := by decide +kernel
theorem dX6_letterHere_103 : decode cX6_letterHere 103 = .ok (.aload_n 0, 1) := by decide +kernel
theorem dX6_letterHere_104 : decode cX6_letterHere 104 = .ok (.getfield 186, 3) := by decide +kernel
theorem dX6_letterHere_107 : decode cX6_letterHere 107 = .ok (.iastore, 1) := by decide +kernel
theorem dX6_letterHere_108 : decode cX6_letterHere 108 = .ok (.aload_n 0, 1) := by decide +kernel
theorem dX6_letterHere_109 : decode cX6_letterHere 109 = .ok (.invokevirtual 213, 3) := by decide +kernel
theorem dX6_letterHere_112 : decode cX6_letterHere 112 = .ok (.aload_n 0, 1) := by decide +kernel
theorem dX6_letterHere_113 : decode cX6_letterHere 113 = .ok (.bipush 115, 2) := by decide +kernel
theorem dX6_letterHere_115 : decode cX6_letterHere 115 = .ok (.bipush 116, 2) := by decide +kernel
theorem dX6_letterHere_117 : decode cX6_letterHere 117 = .ok (.bipush 114, 2) := by decide +kernel
theorem dX6_letterHere_119 : decode cX6_letterHere 119 = .ok (.bipush 117, 2) := by decide +kernel
theorem dX6_letterHere_121 : decode cX6_letterHere 121 = .ok (.bipush 99, 2) := by decide +kernel
theorem dX6_letterHere_123 : decode cX6_letterHere 123 = .ok (.bipush 107, 2) := by decide +kernel
theorem dX6_letterHere_125 : decode cX6_letterHere 125 = .ok (.invokevirtual 202, 3) := by decide +kernel
theorem dX6_letterHere_128 : decode cX6_letterHere 128 = .ok (.ifCond .eq 16, 3) := by decide +kernel
theorem dX6_letterHere_131 : decode cX6_letterHere 131 = .ok (.aload_n 0, 1) := by decide +kernel
theorem dX6_letterHere_132 : decode cX6_letterHere 132 = .ok (.getfield 7, 3) := by decide +kernel
theorem dX6_letterHere_135 : decode cX6_letterHere 135 = .ok (.iload_n 2, 1) := by decide +kernel
theorem dX6_letterHere_136 : decode cX6_letterHere 136 = .ok (.iconst 5, 1) := by decide +kernel
theorem dX6_letterHere_137 : decode cX6_letterHere 137 = .ok (.iadd, 1) := by decide +kernel
theorem dX6_letterHere_138 : decode cX6_letterHere 138 = .ok (.iconst 1, 1) := by decide +kernel
theorem dX6_letterHere_139 : decode cX6_letterHere 139 = .ok (.iastore, 1) := by decide +kernel
theorem dX6_letterHere_140 : decode cX6_letterHere 140 = .ok (.aload_n 0, 1) := by decide +kernel
theorem dX6_letterHere_141 : decode cX6_letterHere 141 = .ok (.invokevirtual 213, 3) := by decide +kernel
theorem dX6_letterHere_144 : decode cX6_letterHere 144 = .ok (.iconst 1, 1) := by decide +kernel
theorem dX6_letterHere_145 : decode cX6_letterHere 145 = .ok (.ireturn, 1) := by decide +kernel
theorem dX6_lawHere_0 : decode cX6_lawHere 0 = .ok (.aload_n 0, 1) := by decide +kernel
theorem dX6_lawHere_1 : decode cX6_lawHere 1 = .ok (.invokevirtual 213, 3) := by decide +kernel
theorem dX6_lawHere_4 : decode cX6_lawHere 4 = .ok (.aload_n 0, 1) := by decide +kernel
theorem dX6_lawHere_5 : decode cX6_lawHere 5 = .ok (.iconst 0, 1) := by decide +kernel
theorem dX6_lawHere_6 : decode cX6_lawHere 6 = .ok (.bipush 9, 2) := by decide +kernel
theorem dX6_lawHere_8 : decode cX6_lawHere 8 = .ok (.invokevirtual 216, 3) := by decide +kernel
theorem dX6_lawHere_11 : decode cX6_lawHere 11 = .ok (.ifCond .ne 5, 3) := by decide +kernel
theorem dX6_lawHere_14 : decode cX6_lawHere 14 = .ok (.iconst 0, 1) := by decide +kernel
theorem dX6_lawHere_15 : decode cX6_lawHere 15 = .ok (.ireturn, 1) := by decide +kernel
theorem dX6_lawHere_16 : decode cX6_lawHere 16 = .ok (.aload_n 0, 1) := by decide +kernel
theorem dX6_lawHere_17 : decode cX6_lawHere 17 = .ok (.getfield 7, 3) := by decide +kernel
theorem dX6_lawHere_20 : decode cX6_lawHere 20 = .ok (.iconst 2, 1) := by decide +kernel
theorem dX6_lawHere_21 : decode cX6_lawHere 21 = .ok (.iload_n 1, 1) := by decide +kernel
theorem dX6_lawHere_22 : decode cX6_lawHere 22 = .ok (.iadd, 1) := by decide +kernel
theorem dX6_lawHere_23 : decode cX6_lawHere 23 = .ok (.aload_n 0, 1) := by decide +kernel
theorem dX6_lawHere_24 : decode cX6_lawHere 24 = .ok (.getfield 186, 3) := by decide +kernel
theorem dX6_lawHere_27 : decode cX6_lawHere 27 = .ok (.iastore, 1) := by decide +kernel
theorem dX6_lawHere_28 : decode cX6_lawHere 28 = .ok (.aload_n 0, 1) := by decide +kernel
theorem dX6_lawHere_29 : decode cX6_lawHere 29 = .ok (.invokevirtual 213, 3) := by decide +kernel
theorem dX6_lawHere_32 : decode cX6_lawHere 32 = .ok (.iconst 1, 1) := by decide +kernel
theorem dX6_lawHere_33 : decode cX6_lawHere 33 = .ok (.ireturn, 1) := by decide +kernel
theorem dX6_itemHere_0 : decode cX6_itemHere 0 = .ok (.aload_n 0, 1) := by decide +kernel
theorem dX6_itemHere_1 : decode cX6_itemHere 1 = .ok (.invokevirtual 234, 3) := by decide +kernel
theorem dX6_itemHere_4 : decode cX6_itemHere 4 = .ok (.istore_n 1, 1) := by decide +kernel
theorem dX6_itemHere_5 : decode cX6_itemHere 5 = .ok (.iload_n 1, 1) := by decide +kernel
theorem dX6_itemHere_6 : decode cX6_itemHere 6 = .ok (.ifCond .lt 9, 3) := by decide +kernel
theorem dX6_itemHere_9 : decode cX6_itemHere 9 = .ok (.aload_n 0, 1) := by decide +kernel
theorem dX6_itemHere_10 : decode cX6_itemHere 10 = .ok (.iload_n 1, 1) := by decide +kernel
theorem dX6_itemHere_11 : decode cX6_itemHere 11 = .ok (.invokevirtual 237, 3) := by decide +kernel
theorem dX6_itemHere_14 : decode cX6_itemHere 14 = .ok (.ireturn, 1) := by decide +kernel
theorem dX6_itemHere_15 : decode cX6_itemHere 15 = .ok (.aload_n 0, 1) := by decide +kernel
theorem dX6_itemHere_16 : decode cX6_itemHere 16 = .ok (.bipush 115, 2) := by decide +kernel
theorem dX6_itemHere_18 : decode cX6_itemHere 18 = .ok (.bipush 108, 2) := by decide +kernel
theorem dX6_itemHere_20 : decode cX6_itemHere 20 = .ok (.bipush 105, 2) := by decide +kernel
theorem dX6_itemHere_22 : decode cX6_itemHere 22 = .ok (.bipush 112, 2) := by decide +kernel
theorem dX6_itemHere_24 : decode cX6_itemHere 24 = .ok (.invokevirtual 210, 3) := by decide +kernel
theorem dX6_itemHere_27 : decode cX6_itemHere 27 = .ok (.ifCond .eq 9, 3) := by decide +kernel
theorem dX6_itemHere_30 : decode cX6_itemHere 30 = .ok (.aload_n 0, 1) := by decide +kernel
theorem dX6_itemHere_31 : decode cX6_itemHere 31 = .ok (.iconst 0, 1) := by decide +kernel
theorem dX6_itemHere_32 : decode cX6_itemHere 32 = .ok (.invokevirtual 240, 3) := by decide +kernel
theorem dX6_itemHere_35 : decode cX6_itemHere 35 = .ok (.ireturn, 1) := by decide +kernel
theorem dX6_itemHere_36 : decode cX6_itemHere 36 = .ok (.aload_n 0, 1) := by decide +kernel
theorem dX6_itemHere_37 : decode cX6_itemHere 37 = .ok (.bipush 102, 2) := by decide +kernel
theorem dX6_itemHere_39 : decode cX6_itemHere 39 = .ok (.bipush 114, 2) := by decide +kernel
theorem dX6_itemHere_41 : decode cX6_itemHere 41 = .ok (.bipush 111, 2) := by decide +kernel
theorem dX6_itemHere_43 : decode cX6_itemHere 43 = .ok (.bipush 115, 2) := by decide +kernel
theorem dX6_itemHere_45 : decode cX6_itemHere 45 = .ok (.bipush 116, 2) := by decide +kernel
theorem dX6_itemHere_47 : decode cX6_itemHere 47 = .ok (.invokevirtual 206, 3) := by decide +kernel
theorem dX6_itemHere_50 : decode cX6_itemHere 50 = .ok (.ifCond .eq 11, 3) := by decide +kernel
theorem dX6_itemHere_53 : decode cX6_itemHere 53 = .ok (.aload_n 0, 1) := by decide +kernel
theorem dX6_itemHere_54 : decode cX6_itemHere 54 = .ok (.iconst 1, 1) := by decide +kernel
theorem dX6_itemHere_55 : decode cX6_itemHere 55 = .ok (.invokevirtual 240, 3) := by decide +kernel
theorem dX6_itemHere_58 : decode cX6_itemHere 58 = .ok (.goto 7, 3) := by decide +kernel
theorem dX6_itemHere_61 : decode cX6_itemHere 61 = .ok (.aload_n 0, 1) := by decide +kernel
theorem dX6_itemHere_62 : decode cX6_itemHere 62 = .ok (.invokevirtual 199, 3) := by decide +kernel
theorem dX6_itemHere_65 : decode cX6_itemHere 65 = .ok (.ireturn, 1) := by decide +kernel
theorem dX6_text_0 : decode cX6_text 0 = .ok (.aload_n 0, 1) := by decide +kernel
theorem dX6_text_1 : decode cX6_text 1 = .ok (.getfield 7, 3) := by decide +kernel
theorem dX6_text_4 : decode cX6_text 4 = .ok (.aload_n 0, 1) := by decide +kernel
theorem dX6_text_5 : decode cX6_text 5 = .ok (.getfield 16, 3) := by decide +kernel
theorem dX6_text_8 : decode cX6_text 8 = .ok (.invokestatic 243, 3) := by decide +kernel
theorem dX6_text_11 : decode cX6_text 11 = .ok (.aload_n 0, 1) := by decide +kernel
theorem dX6_text_12 : decode cX6_text 12 = .ok (.iconst 0, 1) := by decide +kernel
theorem dX6_text_13 : decode cX6_text 13 = .ok (.putfield 168, 3) := by decide +kernel
theorem dX6_text_16 : decode cX6_text 16 = .ok (.aload_n 0, 1) := by decide +kernel
theorem dX6_text_17 : decode cX6_text 17 = .ok (.invokevirtual 213, 3) := by decide +kernel
theorem dX6_text_20 : decode cX6_text 20 = .ok (.iconst 1, 1) := by decide +kernel
theorem dX6_text_21 : decode cX6_text 21 = .ok (.istore_n 1, 1) := by decide +kernel
theorem dX6_text_22 : decode cX6_text 22 = .ok (.aload_n 0, 1) := by decide +kernel
theorem dX6_text_23 : decode cX6_text 23 = .ok (.invokevirtual 247, 3) := by decide +kernel
theorem dX6_text_26 : decode cX6_text 26 = .ok (.istore_n 2, 1) := by decide +kernel
theorem dX6_text_27 : decode cX6_text 27 = .ok (.iload_n 2, 1) := by decide +kernel
theorem dX6_text_28 : decode cX6_text 28 = .ok (.ifCond .eq 26, 3) := by decide +kernel
theorem dX6_text_31 : decode cX6_text 31 = .ok (.aload_n 0, 1) := by decide +kernel
theorem dX6_text_32 : decode cX6_text 32 = .ok (.getfield 183, 3) := by decide +kernel
theorem dX6_text_35 : decode cX6_text 35 = .ok (.iconst 3, 1) := by decide +kernel
theorem dX6_text_36 : decode cX6_text 36 = .ok (.if_icmp .ne 18, 3) := by decide +kernel
theorem dX6_text_39 : decode cX6_text 39 = .ok (.aload_n 0, 1) := by decide +kernel
theorem dX6_text_40 : decode cX6_text 40 = .ok (.invokevirtual 213, 3) := by decide +kernel
theorem dX6_text_43 : decode cX6_text 43 = .ok (.aload_n 0, 1) := by decide +kernel
theorem dX6_text_44 : decode cX6_text 44 = .ok (.invokevirtual 247, 3) := by decide +kernel
theorem dX6_text_47 : decode cX6_text 47 = .ok (.istore_n 2, 1) := by decide +kernel
theorem dX6_text_48 : decode cX6_text 48 = .ok (.iinc 1 1, 3) := by decide +kernel
theorem dX6_text_51 : decode cX6_text 51 = .ok (.goto (-24), 3) := by decide +kernel
theorem dX6_text_54 : decode cX6_text 54 = .ok (.iload_n 2, 1) := by decide +kernel
theorem dX6_text_55 : decode cX6_text 55 = .ok (.ifCond .eq 21, 3) := by decide +kernel
theorem dX6_text_58 : decode cX6_text 58 = .ok (.aload_n 0, 1) := by decide +kernel
theorem dX6_text_59 : decode cX6_text 59 = .ok (.getfield 183, 3) := by decide +kernel
theorem dX6_text_62 : decode cX6_text 62 = .ok (.ifCond .eq 10, 3) := by decide +kernel
theorem dX6_text_65 : decode cX6_text 65 = .ok (.aload_n 0, 1) := by decide +kernel
theorem dX6_text_66 : decode cX6_text 66 = .ok (.invokevirtual 199, 3) := by decide +kernel
theorem dX6_text_69 : decode cX6_text 69 = .ok (.ifCond .eq 7, 3) := by decide +kernel
theorem dX6_text_72 : decode cX6_text 72 = .ok (.iconst 1, 1) := by decide +kernel
theorem dX6_text_73 : decode cX6_text 73 = .ok (.goto 4, 3) := by decide +kernel
theorem dX6_text_76 : decode cX6_text 76 = .ok (.iconst 0, 1) := by decide +kernel
theorem dX6_text_77 : decode cX6_text 77 = .ok (.istore_n 2, 1) := by decide +kernel
theorem dX6_text_78 : decode cX6_text 78 = .ok (.aload_n 0, 1) := by decide +kernel
theorem dX6_text_79 : decode cX6_text 79 = .ok (.iconst 0, 1) := by decide +kernel
theorem dX6_text_80 : decode cX6_text 80 = .ok (.putfield 165, 3) := by decide +kernel
theorem dX6_text_83 : decode cX6_text 83 = .ok (.iload_n 2, 1) := by decide +kernel
theorem dX6_text_84 : decode cX6_text 84 = .ok (.ifCond .ne 14, 3) := by decide +kernel
theorem dX6_text_87 : decode cX6_text 87 = .ok (.aload_n 0, 1) := by decide +kernel
theorem dX6_text_88 : decode cX6_text 88 = .ok (.getfield 16, 3) := by decide +kernel
theorem dX6_text_91 : decode cX6_text 91 = .ok (.aload_n 0, 1) := by decide +kernel
theorem dX6_text_92 : decode cX6_text 92 = .ok (.getfield 7, 3) := by decide +kernel
theorem dX6_text_95 : decode cX6_text 95 = .ok (.invokestatic 243, 3) := by decide +kernel
theorem dX6_text_98 : decode cX6_text 98 = .ok (.iload_n 2, 1) := by decide +kernel
theorem dX6_text_99 : decode cX6_text 99 = .ok (.ifCond .eq 7, 3) := by decide +kernel
theorem dX6_text_102 : decode cX6_text 102 = .ok (.iload_n 1, 1) := by decide +kernel
theorem dX6_text_103 : decode cX6_text 103 = .ok (.goto 9, 3) := by decide +kernel
theorem dX6_text_106 : decode cX6_text 106 = .ok (.iconst (-1), 1) := by decide +kernel
theorem dX6_text_107 : decode cX6_text 107 = .ok (.aload_n 0, 1) := by decide +kernel
theorem dX6_text_108 : decode cX6_text 108 = .ok (.getfield 189, 3) := by decide +kernel
theorem dX6_text_111 : decode cX6_text 111 = .ok (.isub, 1) := by decide +kernel
theorem dX6_text_112 : decode cX6_text 112 = .ok (.ireturn, 1) := by decide +kernel
theorem dX6_hold_0 : decode cX6_hold 0 = .ok (.iload_n 1, 1) := by decide +kernel
theorem dX6_hold_1 : decode cX6_hold 1 = .ok (.i2l, 1) := by decide +kernel
theorem dX6_hold_2 : decode cX6_hold 2 = .ok (.lconst 0, 1) := by decide +kernel
theorem dX6_hold_3 : decode cX6_hold 3 = .ok (.ldc2_w 88, 3) := by decide +kernel
theorem dX6_hold_6 : decode cX6_hold 6 = .ok (.invokestatic 42, 3) := by decide +kernel
theorem dX6_hold_9 : decode cX6_hold 9 = .ok (.ifCond .eq 16, 3) := by decide +kernel
theorem dX6_hold_12 : decode cX6_hold 12 = .ok (.iload_n 2, 1) := by decide +kernel
theorem dX6_hold_13 : decode cX6_hold 13 = .ok (.iconst (-1), 1) := by decide +kernel
theorem dX6_hold_14 : decode cX6_hold 14 = .ok (.if_icmp .eq 18, 3) := by decide +kernel
theorem dX6_hold_17 : decode cX6_hold 17 = .ok (.aload_n 0, 1) := by decide +kernel
theorem dX6_hold_18 : decode cX6_hold 18 = .ok (.iload_n 2, 1) := by decide +kernel
theorem dX6_hold_19 : decode cX6_hold 19 = .ok (.invokevirtual 85, 3) := by decide +kernel
theorem dX6_hold_22 : decode cX6_hold 22 = .ok (.ifCond .ne 10, 3) := by decide +kernel
theorem dX6_hold_25 : decode cX6_hold 25 = .ok (.aload_n 0, 1) := by decide +kernel
theorem dX6_hold_26 : decode cX6_hold 26 = .ok (.ldc 37, 2) := by decide +kernel
theorem dX6_hold_28 : decode cX6_hold 28 = .ok (.invokevirtual 47, 3) := by decide +kernel
theorem dX6_hold_31 : decode cX6_hold 31 = .ok (.ireturn, 1) := by decide +kernel
theorem dX6_hold_32 : decode cX6_hold 32 = .ok (.aload_n 0, 1) := by decide +kernel
theorem dX6_hold_33 : decode cX6_hold 33 = .ok (.getfield 7, 3) := by decide +kernel
theorem dX6_hold_36 : decode cX6_hold 36 = .ok (.bipush 53, 2) := by decide +kernel
theorem dX6_hold_38 : decode cX6_hold 38 = .ok (.iload_n 1, 1) := by decide +kernel
theorem dX6_hold_39 : decode cX6_hold 39 = .ok (.iadd, 1) := by decide +kernel
theorem dX6_hold_40 : decode cX6_hold 40 = .ok (.iload_n 2, 1) := by decide +kernel
theorem dX6_hold_41 : decode cX6_hold 41 = .ok (.iastore, 1) := by decide +kernel
theorem dX6_hold_42 : decode cX6_hold 42 = .ok (.iconst 1, 1) := by decide +kernel
theorem dX6_hold_43 : decode cX6_hold 43 = .ok (.ireturn, 1) := by decide +kernel
theorem dX6_isUnder_0 : decode cX6_isUnder 0 = .ok (.iload_n 1, 1) := by decide +kernel
theorem dX6_isUnder_1 : decode cX6_isUnder 1 = .ok (.ifCond .eq 44, 3) := by decide +kernel
theorem dX6_isUnder_4 : decode cX6_isUnder 4 = .ok (.iload_n 0, 1) := by decide +kernel
theorem dX6_isUnder_5 : decode cX6_isUnder 5 = .ok (.iload_n 1, 1) := by decide +kernel
theorem dX6_isUnder_6 : decode cX6_isUnder 6 = .ok (.if_icmp .eq 39, 3) := by decide +kernel
theorem dX6_isUnder_9 : decode cX6_isUnder 9 = .ok (.iload_n 1, 1) := by decide +kernel
theorem dX6_isUnder_10 : decode cX6_isUnder 10 = .ok (.iconst 2, 1) := by decide +kernel
theorem dX6_isUnder_11 : decode cX6_isUnder 11 = .ok (.if_icmp .ne 13, 3) := by decide +kernel
theorem dX6_isUnder_14 : decode cX6_isUnder 14 = .ok (.iload_n 0, 1) := by decide +kernel
theorem dX6_isUnder_15 : decode cX6_isUnder 15 = .ok (.iconst 3, 1) := by decide +kernel
theorem dX6_isUnder_16 : decode cX6_isUnder 16 = .ok (.if_icmp .eq 29, 3) := by decide +kernel
theorem dX6_isUnder_19 : decode cX6_isUnder 19 = .ok (.iload_n 0, 1) := by decide +kernel
theorem dX6_isUnder_20 : decode cX6_isUnder 20 = .ok (.iconst 4, 1) := by decide +kernel
theorem dX6_isUnder_21 : decode cX6_isUnder 21 = .ok (.if_icmp .eq 24, 3) := by decide +kernel
theorem dX6_isUnder_24 : decode cX6_isUnder 24 = .ok (.iload_n 1, 1) := by decide +kernel
theorem dX6_isUnder_25 : decode cX6_isUnder 25 = .ok (.iconst 3, 1) := by decide +kernel
theorem dX6_isUnder_26 : decode cX6_isUnder 26 = .ok (.if_icmp .ne 8, 3) := by decide +kernel
theorem dX6_isUnder_29 : decode cX6_isUnder 29 = .ok (.iload_n 0, 1) := by decide +kernel
theorem dX6_isUnder_30 : decode cX6_isUnder 30 = .ok (.iconst 4, 1) := by decide +kernel
theorem dX6_isUnder_31 : decode cX6_isUnder 31 = .ok (.if_icmp .eq 14, 3) := by decide +kernel
theorem dX6_isUnder_34 : decode cX6_isUnder 34 = .ok (.iload_n 1, 1) := by decide +kernel
theorem dX6_isUnder_35 : decode cX6_isUnder 35 = .ok (.iconst 1, 1) := by decide +kernel
theorem dX6_isUnder_36 : decode cX6_isUnder 36 = .ok (.if_icmp .ne 13, 3) := by decide +kernel
theorem dX6_isUnder_39 : decode cX6_isUnder 39 = .ok (.iload_n 0, 1) := by decide +kernel
theorem dX6_isUnder_40 : decode cX6_isUnder 40 = .ok (.bipush 6, 2) := by decide +kernel
theorem dX6_isUnder_42 : decode cX6_isUnder 42 = .ok (.if_icmp .ne 7, 3) := by decide +kernel
theorem dX6_isUnder_45 : decode cX6_isUnder 45 = .ok (.iconst 1, 1) := by decide +kernel
theorem dX6_isUnder_46 : decode cX6_isUnder 46 = .ok (.goto 4, 3) := by decide +kernel
theorem dX6_isUnder_49 : decode cX6_isUnder 49 = .ok (.iconst 0, 1) := by decide +kernel
theorem dX6_isUnder_50 : decode cX6_isUnder 50 = .ok (.ireturn, 1) := by decide +kernel
theorem dX6_as_0 : decode cX6_as 0 = .ok (.iload_n 1, 1) := by decide +kernel
theorem dX6_as_1 : decode cX6_as 1 = .ok (.i2l, 1) := by decide +kernel
theorem dX6_as_2 : decode cX6_as 2 = .ok (.lconst 0, 1) := by decide +kernel
theorem dX6_as_3 : decode cX6_as 3 = .ok (.ldc2_w 88, 3) := by decide +kernel
theorem dX6_as_6 : decode cX6_as 6 = .ok (.invokestatic 42, 3) := by decide +kernel
theorem dX6_as_9 : decode cX6_as 9 = .ok (.ifCond .eq 15, 3) := by decide +kernel
theorem dX6_as_12 : decode cX6_as 12 = .ok (.iload_n 2, 1) := by decide +kernel
theorem dX6_as_13 : decode cX6_as 13 = .ok (.i2l, 1) := by decide +kernel
theorem dX6_as_14 : decode cX6_as 14 = .ok (.lconst 0, 1) := by decide +kernel
theorem dX6_as_15 : decode cX6_as 15 = .ok (.ldc2_w 68, 3) := by decide +kernel
theorem dX6_as_18 : decode cX6_as 18 = .ok (.invokestatic 42, 3) := by decide +kernel
theorem dX6_as_21 : decode cX6_as 21 = .ok (.ifCond .ne 10, 3) := by decide +kernel
theorem dX6_as_24 : decode cX6_as 24 = .ok (.aload_n 0, 1) := by decide +kernel
theorem dX6_as_25 : decode cX6_as 25 = .ok (.ldc 37, 2) := by decide +kernel
theorem dX6_as_27 : decode cX6_as 27 = .ok (.invokevirtual 47, 3) := by decide +kernel
theorem dX6_as_30 : decode cX6_as 30 = .ok (.ireturn, 1) := by decide +kernel
theorem dX6_as_31 : decode cX6_as 31 = .ok (.aload_n 0, 1) := by decide +kernel
theorem dX6_as_32 : decode cX6_as 32 = .ok (.getfield 7, 3) := by decide +kernel
theorem dX6_as_35 : decode cX6_as 35 = .ok (.bipush 53, 2) := by decide +kernel
theorem dX6_as_37 : decode cX6_as 37 = .ok (.iload_n 1, 1) := by decide +kernel
theorem dX6_as_38 : decode cX6_as 38 = .ok (.iadd, 1) := by decide +kernel
theorem dX6_as_39 : decode cX6_as 39 = .ok (.iaload, 1) := by decide +kernel
theorem dX6_as_40 : decode cX6_as 40 = .ok (.istore_n 3, 1) := by decide +kernel
theorem dX6_as_41 : decode cX6_as 41 = .ok (.iload_n 3, 1) := by decide +kernel
theorem dX6_as_42 : decode cX6_as 42 = .ok (.ifCond .ge 10, 3) := by decide +kernel
theorem dX6_as_45 : decode cX6_as 45 = .ok (.aload_n 0, 1) := by decide +kernel
theorem dX6_as_46 : decode cX6_as 46 = .ok (.ldc 250, 2) := by decide +kernel
theorem dX6_as_48 : decode cX6_as 48 = .ok (.invokevirtual 47, 3) := by decide +kernel
theorem dX6_as_51 : decode cX6_as 51 = .ok (.ireturn, 1) := by decide +kernel
theorem dX6_as_52 : decode cX6_as 52 = .ok (.aload_n 0, 1) := by decide +kernel
theorem dX6_as_53 : decode cX6_as 53 = .ok (.iload_n 3, 1) := by decide +kernel
theorem dX6_as_54 : decode cX6_as 54 = .ok (.iconst 0, 1) := by decide +kernel
theorem dX6_as_55 : decode cX6_as 55 = .ok (.invokevirtual 51, 3) := by decide +kernel
theorem dX6_as_58 : decode cX6_as 58 = .ok (.iload_n 2, 1) := by decide +kernel
theorem dX6_as_59 : decode cX6_as 59 = .ok (.invokestatic 251, 3) := by decide +kernel
theorem dX6_as_62 : decode cX6_as 62 = .ok (.ifCond .eq 7, 3) := by decide +kernel
theorem dX6_as_65 : decode cX6_as 65 = .ok (.iload_n 3, 1) := by decide +kernel
theorem dX6_as_66 : decode cX6_as 66 = .ok (.goto 9, 3) := by decide +kernel
theorem dX6_as_69 : decode cX6_as 69 = .ok (.aload_n 0, 1) := by decide +kernel
theorem dX6_as_70 : decode cX6_as 70 = .ok (.ldc 254, 2) := by decide +kernel
theorem dX6_as_72 : decode cX6_as 72 = .ok (.invokevirtual 47, 3) := by decide +kernel
theorem dX6_as_75 : decode cX6_as 75 = .ok (.ireturn, 1) := by decide +kernel
theorem dX6_isSheet_0 : decode cX6_isSheet 0 = .ok (.iload_n 0, 1) := by decide +kernel
theorem dX6_isSheet_1 : decode cX6_isSheet 1 = .ok (.ifCond .lt 12, 3) := by decide +kernel
theorem dX6_isSheet_4 : decode cX6_isSheet 4 = .ok (.iload_n 0, 1) := by decide +kernel
theorem dX6_isSheet_5 : decode cX6_isSheet 5 = .ok (.iconst 4, 1) := by decide +kernel
theorem dX6_isSheet_6 : decode cX6_isSheet 6 = .ok (.if_icmp .ge 7, 3) := by decide +kernel
theorem dX6_isSheet_9 : decode cX6_isSheet 9 = .ok (.iconst 1, 1) := by decide +kernel
theorem dX6_isSheet_10 : decode cX6_isSheet 10 = .ok (.goto 4, 3) := by decide +kernel
theorem dX6_isSheet_13 : decode cX6_isSheet 13 = .ok (.iconst 0, 1) := by decide +kernel
theorem dX6_isSheet_14 : decode cX6_isSheet 14 = .ok (.ireturn, 1) := by decide +kernel
theorem dX6_sheet_0 : decode cX6_sheet 0 = .ok (.iload_n 1, 1) := by decide +kernel
theorem dX6_sheet_1 : decode cX6_sheet 1 = .ok (.invokestatic 255, 3) := by decide +kernel
theorem dX6_sheet_4 : decode cX6_sheet 4 = .ok (.ifCond .eq 25, 3) := by decide +kernel
theorem dX6_sheet_7 : decode cX6_sheet 7 = .ok (.iload_n 2, 1) := by decide +kernel
theorem dX6_sheet_8 : decode cX6_sheet 8 = .ok (.ifCond .eq 28, 3) := by decide +kernel
theorem dX6_sheet_11 : decode cX6_sheet 11 = .ok (.iload_n 2, 1) := by decide +kernel
theorem dX6_sheet_12 : decode cX6_sheet 12 = .ok (.bipush 8, 2) := by decide +kernel
theorem dX6_sheet_14 : decode cX6_sheet 14 = .ok (.if_icmp .eq 22, 3) := by decide +kernel
theorem dX6_sheet_17 : decode cX6_sheet 17 = .ok (.iload_n 2, 1) := by decide +kernel
theorem dX6_sheet_18 : decode cX6_sheet 18 = .ok (.bipush 16, 2) := by decide +kernel
theorem dX6_sheet_20 : decode cX6_sheet 20 = .ok (.if_icmp .eq 16, 3) := by decide +kernel
theorem dX6_sheet_23 : decode cX6_sheet 23 = .ok (.iload_n 2, 1) := by decide +kernel
theorem dX6_sheet_24 : decode cX6_sheet 24 = .ok (.bipush 32, 2) := by decide +kernel
theorem dX6_sheet_26 : decode cX6_sheet 26 = .ok (.if_icmp .eq 10, 3) := by decide +kernel
theorem dX6_sheet_29 : decode cX6_sheet 29 = .ok (.aload_n 0, 1) := by decide +kernel
theorem dX6_sheet_30 : decode cX6_sheet 30 = .ok (.ldc 37, 2) := by decide +kernel
theorem dX6_sheet_32 : decode cX6_sheet 32 = .ok (.invokevirtual 47, 3) := by decide +kernel
theorem dX6_sheet_35 : decode cX6_sheet 35 = .ok (.ireturn, 1) := by decide +kernel
theorem dX6_sheet_36 : decode cX6_sheet 36 = .ok (.iload_n 3, 1) := by decide +kernel
theorem dX6_sheet_37 : decode cX6_sheet 37 = .ok (.ifCond .ge 11, 3) := by decide +kernel
theorem dX6_sheet_40 : decode cX6_sheet 40 = .ok (.aload_n 0, 1) := by decide +kernel
theorem dX6_sheet_41 : decode cX6_sheet 41 = .ok (.ldc_w 258, 3) := by decide +kernel
theorem dX6_sheet_44 : decode cX6_sheet 44 = .ok (.invokevirtual 47, 3) := by decide +kernel
theorem dX6_sheet_47 : decode cX6_sheet 47 = .ok (.ireturn, 1) := by decide +kernel
theorem dX6_sheet_48 : decode cX6_sheet 48 = .ok (.iload_n 3, 1) := by decide +kernel
theorem dX6_sheet_49 : decode cX6_sheet 49 = .ok (.bipush 40, 2) := by decide +kernel
theorem dX6_sheet_51 : decode cX6_sheet 51 = .ok (.if_icmp .le 10, 3) := by decide +kernel
theorem dX6_sheet_54 : decode cX6_sheet 54 = .ok (.aload_n 0, 1) := by decide +kernel
theorem dX6_sheet_55 : decode cX6_sheet 55 = .ok (.ldc 37, 2) := by decide +kernel
theorem dX6_sheet_57 : decode cX6_sheet 57 = .ok (.invokevirtual 47, 3) := by decide +kernel
theorem dX6_sheet_60 : decode cX6_sheet 60 = .ok (.ireturn, 1) := by decide +kernel
theorem dX6_sheet_61 : decode cX6_sheet 61 = .ok (.aload_n 0, 1) := by decide +kernel
theorem dX6_sheet_62 : decode cX6_sheet 62 = .ok (.getfield 25, 3) := by decide +kernel
theorem dX6_sheet_65 : decode cX6_sheet 65 = .ok (.iload_n 1, 1) := by decide +kernel
theorem dX6_sheet_66 : decode cX6_sheet 66 = .ok (.iload_n 2, 1) := by decide +kernel
theorem dX6_sheet_67 : decode cX6_sheet 67 = .ok (.ifCond .ne 7, 3) := by decide +kernel
theorem dX6_sheet_70 : decode cX6_sheet 70 = .ok (.iconst (-1), 1) := by decide +kernel
theorem dX6_sheet_71 : decode cX6_sheet 71 = .ok (.goto 4, 3) := by decide +kernel
theorem dX6_sheet_74 : decode cX6_sheet 74 = .ok (.iload_n 2, 1) := by decide +kernel
theorem dX6_sheet_75 : decode cX6_sheet 75 = .ok (.iastore, 1) := by decide +kernel
theorem dX6_sheet_76 : decode cX6_sheet 76 = .ok (.aload_n 0, 1) := by decide +kernel
theorem dX6_sheet_77 : decode cX6_sheet 77 = .ok (.getfield 28, 3) := by decide +kernel
theorem dX6_sheet_80 : decode cX6_sheet 80 = .ok (.iload_n 1, 1) := by decide +kernel
theorem dX6_sheet_81 : decode cX6_sheet 81 = .ok (.iload_n 2, 1) := by decide +kernel
theorem dX6_sheet_82 : decode cX6_sheet 82 = .ok (.ifCond .ne 7, 3) := by decide +kernel
theorem dX6_sheet_85 : decode cX6_sheet 85 = .ok (.iconst 0, 1) := by decide +kernel
theorem dX6_sheet_86 : decode cX6_sheet 86 = .ok (.goto 4, 3) := by decide +kernel
theorem dX6_sheet_89 : decode cX6_sheet 89 = .ok (.iload_n 3, 1) := by decide +kernel
theorem dX6_sheet_90 : decode cX6_sheet 90 = .ok (.iastore, 1) := by decide +kernel
theorem dX6_sheet_91 : decode cX6_sheet 91 = .ok (.iconst 0, 1) := by decide +kernel
theorem dX6_sheet_92 : decode cX6_sheet 92 = .ok (.istore 4, 2) := by decide +kernel
theorem dX6_sheet_94 : decode cX6_sheet 94 = .ok (.iload 4, 2) := by decide +kernel
theorem dX6_sheet_96 : decode cX6_sheet 96 = .ok (.bipush 40, 2) := by decide +kernel
theorem dX6_sheet_98 : decode cX6_sheet 98 = .ok (.if_icmp .ge 22, 3) := by decide +kernel
theorem dX6_sheet_101 : decode cX6_sheet 101 = .ok (.aload_n 0, 1) := by decide +kernel
theorem dX6_sheet_102 : decode cX6_sheet 102 = .ok (.getfield 31, 3) := by decide +kernel
theorem dX6_sheet_105 : decode cX6_sheet 105 = .ok (.bipush 40, 2) := by decide +kernel
theorem dX6_sheet_107 : decode cX6_sheet 107 = .ok (.iload_n 1, 1) := by decide +kernel
theorem dX6_sheet_108 : decode cX6_sheet 108 = .ok (.imul, 1) := by decide +kernel
theorem dX6_sheet_109 : decode cX6_sheet 109 = .ok (.iload 4, 2) := by decide +kernel
theorem dX6_sheet_111 : decode cX6_sheet 111 = .ok (.iadd, 1) := by decide +kernel
theorem dX6_sheet_112 : decode cX6_sheet 112 = .ok (.iconst 0, 1) := by decide +kernel
theorem dX6_sheet_113 : decode cX6_sheet 113 = .ok (.iastore, 1) := by decide +kernel
theorem dX6_sheet_114 : decode cX6_sheet 114 = .ok (.iinc 4 1, 3) := by decide +kernel
theorem dX6_sheet_117 : decode cX6_sheet 117 = .ok (.goto (-23), 3) := by decide +kernel
theorem dX6_sheet_120 : decode cX6_sheet 120 = .ok (.aload_n 0, 1) := by decide +kernel
theorem dX6_sheet_121 : decode cX6_sheet 121 = .ok (.getfield 28, 3) := by decide +kernel
theorem dX6_sheet_124 : decode cX6_sheet 124 = .ok (.iload_n 1, 1) := by decide +kernel
theorem dX6_sheet_125 : decode cX6_sheet 125 = .ok (.iaload, 1) := by decide +kernel
theorem dX6_sheet_126 : decode cX6_sheet 126 = .ok (.ireturn, 1) := by decide +kernel
theorem dX6_write_0 : decode cX6_write 0 = .ok (.iload_n 1, 1) := by decide +kernel
theorem dX6_write_1 : decode cX6_write 1 = .ok (.invokestatic 255, 3) := by decide +kernel
theorem dX6_write_4 : decode cX6_write 4 = .ok (.ifCond .ne 10, 3) := by decide +kernel
theorem dX6_write_7 : decode cX6_write 7 = .ok (.aload_n 0, 1) := by decide +kernel
theorem dX6_write_8 : decode cX6_write 8 = .ok (.ldc 37, 2) := by decide +kernel
theorem dX6_write_10 : decode cX6_write 10 = .ok (.invokevirtual 47, 3) := by decide +kernel
theorem dX6_write_13 : decode cX6_write 13 = .ok (.ireturn, 1) := by decide +kernel
theorem dX6_write_14 : decode cX6_write 14 = .ok (.aload_n 0, 1) := by decide +kernel
theorem dX6_write_15 : decode cX6_write 15 = .ok (.getfield 25, 3) := by decide +kernel
theorem dX6_write_18 : decode cX6_write 18 = .ok (.iload_n 1, 1) := by decide +kernel
theorem dX6_write_19 : decode cX6_write 19 = .ok (.iaload, 1) := by decide +kernel
theorem dX6_write_20 : decode cX6_write 20 = .ok (.ifCond .ge 10, 3) := by decide +kernel
theorem dX6_write_23 : decode cX6_write 23 = .ok (.aload_n 0, 1) := by decide +kernel
theorem dX6_write_24 : decode cX6_write 24 = .ok (.ldc 250, 2) := by decide +kernel
theorem dX6_write_26 : decode cX6_write 26 = .ok (.invokevirtual 47, 3) := by decide +kernel
theorem dX6_write_29 : decode cX6_write 29 = .ok (.ireturn, 1) := by decide +kernel
theorem dX6_write_30 : decode cX6_write 30 = .ok (.iload_n 2, 1) := by decide +kernel
theorem dX6_write_31 : decode cX6_write 31 = .ok (.i2l, 1) := by decide +kernel
theorem dX6_write_32 : decode cX6_write 32 = .ok (.lconst 0, 1) := by decide +kernel
theorem dX6_write_33 : decode cX6_write 33 = .ok (.aload_n 0, 1) := by decide +kernel
theorem dX6_write_34 : decode cX6_write 34 = .ok (.getfield 28, 3) := by decide +kernel
theorem dX6_write_37 : decode cX6_write 37 = .ok (.iload_n 1, 1) := by decide +kernel
theorem dX6_write_38 : decode cX6_write 38 = .ok (.iaload, 1) := by decide +kernel
theorem dX6_write_39 : decode cX6_write 39 = .ok (.iconst 1, 1) := by decide +kernel
theorem dX6_write_40 : decode cX6_write 40 = .ok (.isub, 1) := by decide +kernel
theorem dX6_write_41 : decode cX6_write 41 = .ok (.i2l, 1) := by decide +kernel
theorem dX6_write_42 : decode cX6_write 42 = .ok (.invokestatic 42, 3) := by decide +kernel
theorem dX6_write_45 : decode cX6_write 45 = .ok (.ifCond .ne 10, 3) := by decide +kernel
theorem dX6_write_48 : decode cX6_write 48 = .ok (.aload_n 0, 1) := by decide +kernel
theorem dX6_write_49 : decode cX6_write 49 = .ok (.ldc 37, 2) := by decide +kernel
theorem dX6_write_51 : decode cX6_write 51 = .ok (.invokevirtual 47, 3) := by decide +kernel
theorem dX6_write_54 : decode cX6_write 54 = .ok (.ireturn, 1) := by decide +kernel
theorem dX6_write_55 : decode cX6_write 55 = .ok (.aload_n 0, 1) := by decide +kernel
theorem dX6_write_56 : decode cX6_write 56 = .ok (.getfield 31, 3) := by decide +kernel
theorem dX6_write_59 : decode cX6_write 59 = .ok (.bipush 40, 2) := by decide +kernel
theorem dX6_write_61 : decode cX6_write 61 = .ok (.iload_n 1, 1) := by decide +kernel
theorem dX6_write_62 : decode cX6_write 62 = .ok (.imul, 1) := by decide +kernel
theorem dX6_write_63 : decode cX6_write 63 = .ok (.iload_n 2, 1) := by decide +kernel
theorem dX6_write_64 : decode cX6_write 64 = .ok (.iadd, 1) := by decide +kernel
theorem dX6_write_65 : decode cX6_write 65 = .ok (.aload_n 0, 1) := by decide +kernel
theorem dX6_write_66 : decode cX6_write 66 = .ok (.getfield 25, 3) := by decide +kernel
theorem dX6_write_69 : decode cX6_write 69 = .ok (.iload_n 1, 1) := by decide +kernel
theorem dX6_write_70 : decode cX6_write 70 = .ok (.iaload, 1) := by decide +kernel
theorem dX6_write_71 : decode cX6_write 71 = .ok (.bipush 8, 2) := by decide +kernel
theorem dX6_write_73 : decode cX6_write 73 = .ok (.if_icmp .ne 8, 3) := by decide +kernel
theorem dX6_write_76 : decode cX6_write 76 = .ok (.iload_n 3, 1) := by decide +kernel
theorem dX6_write_77 : decode cX6_write 77 = .ok (.i2b, 1) := by decide +kernel
theorem dX6_write_78 : decode cX6_write 78 = .ok (.goto 20, 3) := by decide +kernel
theorem dX6_write_81 : decode cX6_write 81 = .ok (.aload_n 0, 1) := by decide +kernel
theorem dX6_write_82 : decode cX6_write 82 = .ok (.getfield 25, 3) := by decide +kernel
theorem dX6_write_85 : decode cX6_write 85 = .ok (.iload_n 1, 1) := by decide +kernel
theorem dX6_write_86 : decode cX6_write 86 = .ok (.iaload, 1) := by decide +kernel
theorem dX6_write_87 : decode cX6_write 87 = .ok (.bipush 16, 2) := by decide +kernel
theorem dX6_write_89 : decode cX6_write 89 = .ok (.if_icmp .ne 8, 3) := by decide +kernel
theorem dX6_write_92 : decode cX6_write 92 = .ok (.iload_n 3, 1) := by decide +kernel
theorem dX6_write_93 : decode cX6_write 93 = .ok (.i2s, 1) := by decide +kernel
theorem dX6_write_94 : decode cX6_write 94 = .ok (.goto 4, 3) := by decide +kernel
theorem dX6_write_97 : decode cX6_write 97 = .ok (.iload_n 3, 1) := by decide +kernel
theorem dX6_write_98 : decode cX6_write 98 = .ok (.iastore, 1) := by decide +kernel
theorem dX6_write_99 : decode cX6_write 99 = .ok (.iconst 1, 1) := by decide +kernel
theorem dX6_write_100 : decode cX6_write 100 = .ok (.ireturn, 1) := by decide +kernel
theorem dX6_copy_0 : decode cX6_copy 0 = .ok (.iload_n 1, 1) := by decide +kernel
theorem dX6_copy_1 : decode cX6_copy 1 = .ok (.invokestatic 255, 3) := by decide +kernel
theorem dX6_copy_4 : decode cX6_copy 4 = .ok (.ifCond .eq 10, 3) := by decide +kernel
theorem dX6_copy_7 : decode cX6_copy 7 = .ok (.iload_n 3, 1) := by decide +kernel
theorem dX6_copy_8 : decode cX6_copy 8 = .ok (.invokestatic 255, 3) := by decide +kernel
theorem dX6_copy_11 : decode cX6_copy 11 = .ok (.ifCond .ne 10, 3) := by decide +kernel
theorem dX6_copy_14 : decode cX6_copy 14 = .ok (.aload_n 0, 1) := by decide +kernel
theorem dX6_copy_15 : decode cX6_copy 15 = .ok (.ldc 37, 2) := by decide +kernel
theorem dX6_copy_17 : decode cX6_copy 17 = .ok (.invokevirtual 47, 3) := by decide +kernel
theorem dX6_copy_20 : decode cX6_copy 20 = .ok (.ireturn, 1) := by decide +kernel
theorem dX6_copy_21 : decode cX6_copy 21 = .ok (.aload_n 0, 1) := by decide +kernel
theorem dX6_copy_22 : decode cX6_copy 22 = .ok (.getfield 25, 3) := by decide +kernel
theorem dX6_copy_25 : decode cX6_copy 25 = .ok (.iload_n 1, 1) := by decide +kernel
theorem dX6_copy_26 : decode cX6_copy 26 = .ok (.iaload, 1) := by decide +kernel
theorem dX6_copy_27 : decode cX6_copy 27 = .ok (.ifCond .lt 12, 3) := by decide +kernel
theorem dX6_copy_30 : decode cX6_copy 30 = .ok (.aload_n 0, 1) := by decide +kernel
theorem dX6_copy_31 : decode cX6_copy 31 = .ok (.getfield 25, 3) := by decide +kernel
theorem dX6_copy_34 : decode cX6_copy 34 = .ok (.iload_n 3, 1) := by decide +kernel
theorem dX6_copy_35 : decode cX6_copy 35 = .ok (.iaload, 1) := by decide +kernel
theorem dX6_copy_36 : decode cX6_copy 36 = .ok (.ifCond .ge 10, 3) := by decide +kernel
theorem dX6_copy_39 : decode cX6_copy 39 = .ok (.aload_n 0, 1) := by decide +kernel
theorem dX6_copy_40 : decode cX6_copy 40 = .ok (.ldc 250, 2) := by decide +kernel
theorem dX6_copy_42 : decode cX6_copy 42 = .ok (.invokevirtual 47, 3) := by decide +kernel
theorem dX6_copy_45 : decode cX6_copy 45 = .ok (.ireturn, 1) := by decide +kernel
theorem dX6_copy_46 : decode cX6_copy 46 = .ok (.aload_n 0, 1) := by decide +kernel
theorem dX6_copy_47 : decode cX6_copy 47 = .ok (.getfield 25, 3) := by decide +kernel
theorem dX6_copy_50 : decode cX6_copy 50 = .ok (.iload_n 1, 1) := by decide +kernel
theorem dX6_copy_51 : decode cX6_copy 51 = .ok (.iaload, 1) := by decide +kernel
theorem dX6_copy_52 : decode cX6_copy 52 = .ok (.aload_n 0, 1) := by decide +kernel
theorem dX6_copy_53 : decode cX6_copy 53 = .ok (.getfield 25, 3) := by decide +kernel
theorem dX6_copy_56 : decode cX6_copy 56 = .ok (.iload_n 3, 1) := by decide +kernel
theorem dX6_copy_57 : decode cX6_copy 57 = .ok (.iaload, 1) := by decide +kernel
theorem dX6_copy_58 : decode cX6_copy 58 = .ok (.if_icmp .eq 10, 3) := by decide +kernel
theorem dX6_copy_61 : decode cX6_copy 61 = .ok (.aload_n 0, 1) := by decide +kernel
theorem dX6_copy_62 : decode cX6_copy 62 = .ok (.ldc 254, 2) := by decide +kernel
theorem dX6_copy_64 : decode cX6_copy 64 = .ok (.invokevirtual 47, 3) := by decide +kernel
theorem dX6_copy_67 : decode cX6_copy 67 = .ok (.ireturn, 1) := by decide +kernel
theorem dX6_copy_68 : decode cX6_copy 68 = .ok (.iload_n 2, 1) := by decide +kernel
theorem dX6_copy_69 : decode cX6_copy 69 = .ok (.ifCond .lt 40, 3) := by decide +kernel
theorem dX6_copy_72 : decode cX6_copy 72 = .ok (.iload 4, 2) := by decide +kernel
theorem dX6_copy_74 : decode cX6_copy 74 = .ok (.ifCond .lt 35, 3) := by decide +kernel
theorem dX6_copy_77 : decode cX6_copy 77 = .ok (.iload 5, 2) := by decide +kernel
theorem dX6_copy_79 : decode cX6_copy 79 = .ok (.ifCond .lt 30, 3) := by decide +kernel
theorem dX6_copy_82 : decode cX6_copy 82 = .ok (.iload 5, 2) := by decide +kernel
theorem dX6_copy_84 : decode cX6_copy 84 = .ok (.aload_n 0, 1) := by decide +kernel
theorem dX6_copy_85 : decode cX6_copy 85 = .ok (.getfield 28, 3) := by decide +kernel
theorem dX6_copy_88 : decode cX6_copy 88 = .ok (.iload_n 1, 1) := by decide +kernel
theorem dX6_copy_89 : decode cX6_copy 89 = .ok (.iaload, 1) := by decide +kernel
theorem dX6_copy_90 : decode cX6_copy 90 = .ok (.iload_n 2, 1) := by decide +kernel
theorem dX6_copy_91 : decode cX6_copy 91 = .ok (.isub, 1) := by decide +kernel
theorem dX6_copy_92 : decode cX6_copy 92 = .ok (.if_icmp .gt 17, 3) := by decide +kernel
theorem dX6_copy_95 : decode cX6_copy 95 = .ok (.iload 5, 2) := by decide +kernel
theorem dX6_copy_97 : decode cX6_copy 97 = .ok (.aload_n 0, 1) := by decide +kernel
theorem dX6_copy_98 : decode cX6_copy 98 = .ok (.getfield 28, 3) := by decide +kernel
theorem dX6_copy_101 : decode cX6_copy 101 = .ok (.iload_n 3, 1) := by decide +kernel
theorem dX6_copy_102 : decode cX6_copy 102 = .ok (.iaload, 1) := by decide +kernel
theorem dX6_copy_103 : decode cX6_copy 103 = .ok (.iload 4, 2) := by decide +kernel
theorem dX6_copy_105 : decode cX6_copy 105 = .ok (.isub, 1) := by decide +kernel
theorem dX6_copy_106 : decode cX6_copy 106 = .ok (.if_icmp .le 10, 3) := by decide +kernel
theorem dX6_copy_109 : decode cX6_copy 109 = .ok (.aload_n 0, 1) := by decide +kernel
theorem dX6_copy_110 : decode cX6_copy 110 = .ok (.ldc 37, 2) := by decide +kernel
theorem dX6_copy_112 : decode cX6_copy 112 = .ok (.invokevirtual 47, 3) := by decide +kernel
theorem dX6_copy_115 : decode cX6_copy 115 = .ok (.ireturn, 1) := by decide +kernel
theorem dX6_copy_116 : decode cX6_copy 116 = .ok (.bipush 40, 2) := by decide +kernel
theorem dX6_copy_118 : decode cX6_copy 118 = .ok (.iload_n 1, 1) := by decide +kernel
theorem dX6_copy_119 : decode cX6_copy 119 = .ok (.imul, 1) := by decide +kernel
theorem dX6_copy_120 : decode cX6_copy 120 = .ok (.iload_n 2, 1) := by decide +kernel
theorem dX6_copy_121 : decode cX6_copy 121 = .ok (.iadd, 1) := by decide +kernel
theorem dX6_copy_122 : decode cX6_copy 122 = .ok (.istore 6, 2) := by decide +kernel
theorem dX6_copy_124 : decode cX6_copy 124 = .ok (.bipush 40, 2) := by decide +kernel
theorem dX6_copy_126 : decode cX6_copy 126 = .ok (.iload_n 3, 1) := by decide +kernel
theorem dX6_copy_127 : decode cX6_copy 127 = .ok (.imul, 1) := by decide +kernel
theorem dX6_copy_128 : decode cX6_copy 128 = .ok (.iload 4, 2) := by decide +kernel
theorem dX6_copy_130 : decode cX6_copy 130 = .ok (.iadd, 1) := by decide +kernel
theorem dX6_copy_131 : decode cX6_copy 131 = .ok (.istore 7, 2) := by decide +kernel
theorem dX6_copy_133 : decode cX6_copy 133 = .ok (.iconst 0, 1) := by decide +kernel
theorem dX6_copy_134 : decode cX6_copy 134 = .ok (.istore 8, 2) := by decide +kernel
theorem dX6_copy_136 : decode cX6_copy 136 = .ok (.iload 8, 2) := by decide +kernel
theorem dX6_copy_138 : decode cX6_copy 138 = .ok (.iload 5, 2) := by decide +kernel
theorem dX6_copy_140 : decode cX6_copy 140 = .ok (.if_icmp .ge 50, 3) := by decide +kernel
theorem dX6_copy_143 : decode cX6_copy 143 = .ok (.iload 6, 2) := by decide +kernel
theorem dX6_copy_145 : decode cX6_copy 145 = .ok (.iload 7, 2) := by decide +kernel
theorem dX6_copy_147 : decode cX6_copy 147 = .ok (.if_icmp .ge 13, 3) := by decide +kernel
theorem dX6_copy_150 : decode cX6_copy 150 = .ok (.iload 5, 2) := by decide +kernel
theorem dX6_copy_152 : decode cX6_copy 152 = .ok (.iconst 1, 1) := by decide +kernel
theorem dX6_copy_153 : decode cX6_copy 153 = .ok (.isub, 1) := by decide +kernel
theorem dX6_copy_154 : decode cX6_copy 154 = .ok (.iload 8, 2) := by decide +kernel
theorem dX6_copy_156 : decode cX6_copy 156 = .ok (.isub, 1) := by decide +kernel
theorem dX6_copy_157 : decode cX6_copy 157 = .ok (.goto 5, 3) := by decide +kernel
theorem dX6_copy_160 : decode cX6_copy 160 = .ok (.iload 8, 2) := by decide +kernel
theorem dX6_copy_162 : decode cX6_copy 162 = .ok (.istore 9, 2) := by decide +kernel
theorem dX6_copy_164 : decode cX6_copy 164 = .ok (.aload_n 0, 1) := by decide +kernel
theorem dX6_copy_165 : decode cX6_copy 165 = .ok (.getfield 31, 3) := by decide +kernel
theorem dX6_copy_168 : decode cX6_copy 168 = .ok (.iload 7, 2) := by decide +kernel
theorem dX6_copy_170 : decode cX6_copy 170 = .ok (.iload 9, 2) := by decide +kernel
theorem dX6_copy_172 : decode cX6_copy 172 = .ok (.iadd, 1) := by decide +kernel
theorem dX6_copy_173 : decode cX6_copy 173 = .ok (.aload_n 0, 1) := by decide +kernel
theorem dX6_copy_174 : decode cX6_copy 174 = .ok (.getfield 31, 3) := by decide +kernel
theorem dX6_copy_177 : decode cX6_copy 177 = .ok (.iload 6, 2) := by decide +kernel
theorem dX6_copy_179 : decode cX6_copy 179 = .ok (.iload 9, 2) := by decide +kernel
theorem dX6_copy_181 : decode cX6_copy 181 = .ok (.iadd, 1) := by decide +kernel
theorem dX6_copy_182 : decode cX6_copy 182 = .ok (.iaload, 1) := by decide +kernel
theorem dX6_copy_183 : decode cX6_copy 183 = .ok (.iastore, 1) := by decide +kernel
theorem dX6_copy_184 : decode cX6_copy 184 = .ok (.iinc 8 1, 3) := by decide +kernel
theorem dX6_copy_187 : decode cX6_copy 187 = .ok (.goto (-51), 3) := by decide +kernel
theorem dX6_copy_190 : decode cX6_copy 190 = .ok (.iload 5, 2) := by decide +kernel
theorem dX6_copy_192 : decode cX6_copy 192 = .ok (.ireturn, 1) := by decide +kernel
theorem dX6_wants_0 : decode cX6_wants 0 = .ok (.iload_n 1, 1) := by decide +kernel
theorem dX6_wants_1 : decode cX6_wants 1 = .ok (.invokestatic 255, 3) := by decide +kernel
theorem dX6_wants_4 : decode cX6_wants 4 = .ok (.ifCond .ne 8, 3) := by decide +kernel
theorem dX6_wants_7 : decode cX6_wants 7 = .ok (.ldc 37, 2) := by decide +kernel
theorem dX6_wants_9 : decode cX6_wants 9 = .ok (.goto 18, 3) := by decide +kernel
theorem dX6_wants_12 : decode cX6_wants 12 = .ok (.aload_n 0, 1) := by decide +kernel
theorem dX6_wants_13 : decode cX6_wants 13 = .ok (.getfield 25, 3) := by decide +kernel
theorem dX6_wants_16 : decode cX6_wants 16 = .ok (.iload_n 1, 1) := by decide +kernel
theorem dX6_wants_17 : decode cX6_wants 17 = .ok (.iaload, 1) := by decide +kernel
theorem dX6_wants_18 : decode cX6_wants 18 = .ok (.ifCond .ge 8, 3) := by decide +kernel
theorem dX6_wants_21 : decode cX6_wants 21 = .ok (.ldc 250, 2) := by decide +kernel
theorem dX6_wants_23 : decode cX6_wants 23 = .ok (.goto 4, 3) := by decide +kernel
theorem dX6_wants_26 : decode cX6_wants 26 = .ok (.iconst 0, 1) := by decide +kernel
theorem dX6_wants_27 : decode cX6_wants 27 = .ok (.ireturn, 1) := by decide +kernel
theorem dX6_load_0 : decode cX6_load 0 = .ok (.aload_n 0, 1) := by decide +kernel
theorem dX6_load_1 : decode cX6_load 1 = .ok (.iload_n 1, 1) := by decide +kernel
theorem dX6_load_2 : decode cX6_load 2 = .ok (.invokevirtual 259, 3) := by decide +kernel
theorem dX6_load_5 : decode cX6_load 5 = .ok (.ifCond .eq 13, 3) := by decide +kernel
theorem dX6_load_8 : decode cX6_load 8 = .ok (.aload_n 0, 1) := by decide +kernel
theorem dX6_load_9 : decode cX6_load 9 = .ok (.aload_n 0, 1) := by decide +kernel
theorem dX6_load_10 : decode cX6_load 10 = .ok (.iload_n 1, 1) := by decide +kernel
theorem dX6_load_11 : decode cX6_load 11 = .ok (.invokevirtual 259, 3) := by decide +kernel
theorem dX6_load_14 : decode cX6_load 14 = .ok (.invokevirtual 47, 3) := by decide +kernel
theorem dX6_load_17 : decode cX6_load 17 = .ok (.ireturn, 1) := by decide +kernel
theorem dX6_load_18 : decode cX6_load 18 = .ok (.iconst 0, 1) := by decide +kernel
theorem dX6_load_19 : decode cX6_load 19 = .ok (.istore_n 2, 1) := by decide +kernel
theorem dX6_load_20 : decode cX6_load 20 = .ok (.iload_n 2, 1) := by decide +kernel
theorem dX6_load_21 : decode cX6_load 21 = .ok (.aload_n 0, 1) := by decide +kernel
theorem dX6_load_22 : decode cX6_load 22 = .ok (.getfield 28, 3) := by decide +kernel
theorem dX6_load_25 : decode cX6_load 25 = .ok (.iload_n 1, 1) := by decide +kernel
theorem dX6_load_26 : decode cX6_load 26 = .ok (.iaload, 1) := by decide +kernel
theorem dX6_load_27 : decode cX6_load 27 = .ok (.if_icmp .ge 65, 3) := by decide +kernel
theorem dX6_load_30 : decode cX6_load 30 = .ok (.aload_n 0, 1) := by decide +kernel
theorem dX6_load_31 : decode cX6_load 31 = .ok (.iload_n 2, 1) := by decide +kernel
theorem dX6_load_32 : decode cX6_load 32 = .ok (.invokevirtual 85, 3) := by decide +kernel
theorem dX6_load_35 : decode cX6_load 35 = .ok (.ifCond .eq 57, 3) := by decide +kernel
theorem dX6_load_38 : decode cX6_load 38 = .ok (.aload_n 0, 1) := by decide +kernel
theorem dX6_load_39 : decode cX6_load 39 = .ok (.getfield 31, 3) := by decide +kernel
theorem dX6_load_42 : decode cX6_load 42 = .ok (.bipush 40, 2) := by decide +kernel
theorem dX6_load_44 : decode cX6_load 44 = .ok (.iload_n 1, 1) := by decide +kernel
theorem dX6_load_45 : decode cX6_load 45 = .ok (.imul, 1) := by decide +kernel
theorem dX6_load_46 : decode cX6_load 46 = .ok (.iload_n 2, 1) := by decide +kernel
theorem dX6_load_47 : decode cX6_load 47 = .ok (.iadd, 1) := by decide +kernel
theorem dX6_load_48 : decode cX6_load 48 = .ok (.iaload, 1) := by decide +kernel
theorem dX6_load_49 : decode cX6_load 49 = .ok (.i2l, 1) := by decide +kernel
theorem dX6_load_50 : decode cX6_load 50 = .ok (.ldc2_w 74, 3) := by decide +kernel
theorem dX6_load_53 : decode cX6_load 53 = .ok (.ldc2_w 76, 3) := by decide +kernel
theorem dX6_load_56 : decode cX6_load 56 = .ok (.invokestatic 42, 3) := by decide +kernel
theorem dX6_load_59 : decode cX6_load 59 = .ok (.ifCond .eq 33, 3) := by decide +kernel
theorem dX6_load_62 : decode cX6_load 62 = .ok (.aload_n 0, 1) := by decide +kernel
theorem dX6_load_63 : decode cX6_load 63 = .ok (.getfield 7, 3) := by decide +kernel
theorem dX6_load_66 : decode cX6_load 66 = .ok (.iconst 5, 1) := by decide +kernel
theorem dX6_load_67 : decode cX6_load 67 = .ok (.bipush 6, 2) := by decide +kernel
theorem dX6_load_69 : decode cX6_load 69 = .ok (.iload_n 2, 1) := by decide +kernel
theorem dX6_load_70 : decode cX6_load 70 = .ok (.imul, 1) := by decide +kernel
theorem dX6_load_71 : decode cX6_load 71 = .ok (.iadd, 1) := by decide +kernel
theorem dX6_load_72 : decode cX6_load 72 = .ok (.iconst 3, 1) := by decide +kernel
theorem dX6_load_73 : decode cX6_load 73 = .ok (.iadd, 1) := by decide +kernel
theorem dX6_load_74 : decode cX6_load 74 = .ok (.aload_n 0, 1) := by decide +kernel
theorem dX6_load_75 : decode cX6_load 75 = .ok (.getfield 31, 3) := by decide +kernel
theorem dX6_load_78 : decode cX6_load 78 = .ok (.bipush 40, 2) := by decide +kernel
theorem dX6_load_80 : decode cX6_load 80 = .ok (.iload_n 1, 1) := by decide +kernel
theorem dX6_load_81 : decode cX6_load 81 = .ok (.imul, 1) := by decide +kernel
theorem dX6_load_82 : decode cX6_load 82 = .ok (.iload_n 2, 1) := by decide +kernel
theorem dX6_load_83 : decode cX6_load 83 = .ok (.iadd, 1) := by decide +kernel
theorem dX6_load_84 : decode cX6_load 84 = .ok (.iaload, 1) := by decide +kernel
theorem dX6_load_85 : decode cX6_load 85 = .ok (.iastore, 1) := by decide +kernel
theorem dX6_load_86 : decode cX6_load 86 = .ok (.iinc 2 1, 3) := by decide +kernel
theorem dX6_load_89 : decode cX6_load 89 = .ok (.goto (-69), 3) := by decide +kernel
theorem dX6_load_92 : decode cX6_load 92 = .ok (.iload_n 2, 1) := by decide +kernel
theorem dX6_load_93 : decode cX6_load 93 = .ok (.ireturn, 1) := by decide +kernel
theorem dX6_toldBy_0 : decode cX6_toldBy 0 = .ok (.aload_n 0, 1) := by decide +kernel
theorem dX6_toldBy_1 : decode cX6_toldBy 1 = .ok (.getfield 31, 3) := by decide +kernel
theorem dX6_toldBy_4 : decode cX6_toldBy 4 = .ok (.bipush 40, 2) := by decide +kernel
theorem dX6_toldBy_6 : decode cX6_toldBy 6 = .ok (.iload_n 1, 1) := by decide +kernel
theorem dX6_toldBy_7 : decode cX6_toldBy 7 = .ok (.imul, 1) := by decide +kernel
theorem dX6_toldBy_8 : decode cX6_toldBy 8 = .ok (.iload_n 3, 1) := by decide +kernel
theorem dX6_toldBy_9 : decode cX6_toldBy 9 = .ok (.iadd, 1) := by decide +kernel
theorem dX6_toldBy_10 : decode cX6_toldBy 10 = .ok (.iaload, 1) := by decide +kernel
theorem dX6_toldBy_11 : decode cX6_toldBy 11 = .ok (.i2l, 1) := by decide +kernel
theorem dX6_toldBy_12 : decode cX6_toldBy 12 = .ok (.aload_n 0, 1) := by decide +kernel
theorem dX6_toldBy_13 : decode cX6_toldBy 13 = .ok (.getfield 31, 3) := by decide +kernel
theorem dX6_toldBy_16 : decode cX6_toldBy 16 = .ok (.bipush 40, 2) := by decide +kernel
theorem dX6_toldBy_18 : decode cX6_toldBy 18 = .ok (.iload_n 1, 1) := by decide +kernel
theorem dX6_toldBy_19 : decode cX6_toldBy 19 = .ok (.imul, 1) := by decide +kernel
theorem dX6_toldBy_20 : decode cX6_toldBy 20 = .ok (.iload_n 2, 1) := by decide +kernel
theorem dX6_toldBy_21 : decode cX6_toldBy 21 = .ok (.iadd, 1) := by decide +kernel
theorem dX6_toldBy_22 : decode cX6_toldBy 22 = .ok (.iaload, 1) := by decide +kernel
theorem dX6_toldBy_23 : decode cX6_toldBy 23 = .ok (.i2l, 1) := by decide +kernel
theorem dX6_toldBy_24 : decode cX6_toldBy 24 = .ok (.lsub, 1) := by decide +kernel
theorem dX6_toldBy_25 : decode cX6_toldBy 25 = .ok (.lreturn, 1) := by decide +kernel
theorem dX6_wantsPlaces_0 : decode cX6_wantsPlaces 0 = .ok (.aload_n 0, 1) := by decide +kernel
theorem dX6_wantsPlaces_1 : decode cX6_wantsPlaces 1 = .ok (.iload_n 1, 1) := by decide +kernel
theorem dX6_wantsPlaces_2 : decode cX6_wantsPlaces 2 = .ok (.invokevirtual 259, 3) := by decide +kernel
theorem dX6_wantsPlaces_5 : decode cX6_wantsPlaces 5 = .ok (.istore_n 2, 1) := by decide +kernel
theorem dX6_wantsPlaces_6 : decode cX6_wantsPlaces 6 = .ok (.iload_n 2, 1) := by decide +kernel
theorem dX6_wantsPlaces_7 : decode cX6_wantsPlaces 7 = .ok (.ifCond .eq 5, 3) := by decide +kernel
theorem dX6_wantsPlaces_10 : decode cX6_wantsPlaces 10 = .ok (.iload_n 2, 1) := by decide +kernel
theorem dX6_wantsPlaces_11 : decode cX6_wantsPlaces 11 = .ok (.ireturn, 1) := by decide +kernel
theorem dX6_wantsPlaces_12 : decode cX6_wantsPlaces 12 = .ok (.aload_n 0, 1) := by decide +kernel
theorem dX6_wantsPlaces_13 : decode cX6_wantsPlaces 13 = .ok (.getfield 28, 3) := by decide +kernel
theorem dX6_wantsPlaces_16 : decode cX6_wantsPlaces 16 = .ok (.iload_n 1, 1) := by decide +kernel
theorem dX6_wantsPlaces_17 : decode cX6_wantsPlaces 17 = .ok (.iaload, 1) := by decide +kernel
theorem dX6_wantsPlaces_18 : decode cX6_wantsPlaces 18 = .ok (.bipush 8, 2) := by decide +kernel
theorem dX6_wantsPlaces_20 : decode cX6_wantsPlaces 20 = .ok (.if_icmp .le 8, 3) := by decide +kernel
theorem dX6_wantsPlaces_23 : decode cX6_wantsPlaces 23 = .ok (.ldc 109, 2) := by decide +kernel
theorem dX6_wantsPlaces_25 : decode cX6_wantsPlaces 25 = .ok (.goto 4, 3) := by decide +kernel
theorem dX6_wantsPlaces_28 : decode cX6_wantsPlaces 28 = .ok (.iconst 0, 1) := by decide +kernel
theorem dX6_wantsPlaces_29 : decode cX6_wantsPlaces 29 = .ok (.istore_n 2, 1) := by decide +kernel
theorem dX6_wantsPlaces_30 : decode cX6_wantsPlaces 30 = .ok (.iconst 0, 1) := by decide +kernel
theorem dX6_wantsPlaces_31 : decode cX6_wantsPlaces 31 = .ok (.istore_n 3, 1) := by decide +kernel
theorem dX6_wantsPlaces_32 : decode cX6_wantsPlaces 32 = .ok (.iload_n 3, 1) := by decide +kernel
theorem dX6_wantsPlaces_33 : decode cX6_wantsPlaces 33 = .ok (.aload_n 0, 1) := by decide +kernel
theorem dX6_wantsPlaces_34 : decode cX6_wantsPlaces 34 = .ok (.getfield 28, 3) := by decide +kernel
theorem dX6_wantsPlaces_37 : decode cX6_wantsPlaces 37 = .ok (.iload_n 1, 1) := by decide +kernel
theorem dX6_wantsPlaces_38 : decode cX6_wantsPlaces 38 = .ok (.iaload, 1) := by decide +kernel
theorem dX6_wantsPlaces_39 : decode cX6_wantsPlaces 39 = .ok (.if_icmp .ge 55, 3) := by decide +kernel
theorem dX6_wantsPlaces_42 : decode cX6_wantsPlaces 42 = .ok (.iload_n 2, 1) := by decide +kernel
theorem dX6_wantsPlaces_43 : decode cX6_wantsPlaces 43 = .ok (.ifCond .ne 51, 3) := by decide +kernel
theorem dX6_wantsPlaces_46 : decode cX6_wantsPlaces 46 = .ok (.iconst 0, 1) := by decide +kernel
theorem dX6_wantsPlaces_47 : decode cX6_wantsPlaces 47 = .ok (.istore 4, 2) := by decide +kernel
theorem dX6_wantsPlaces_49 : decode cX6_wantsPlaces 49 = .ok (.iload 4, 2) := by decide +kernel
theorem dX6_wantsPlaces_51 : decode cX6_wantsPlaces 51 = .ok (.iload_n 3, 1) := by decide +kernel
theorem dX6_wantsPlaces_52 : decode cX6_wantsPlaces 52 = .ok (.if_icmp .ge 36, 3) := by decide +kernel
theorem dX6_wantsPlaces_55 : decode cX6_wantsPlaces 55 = .ok (.aload_n 0, 1) := by decide +kernel
theorem dX6_wantsPlaces_56 : decode cX6_wantsPlaces 56 = .ok (.iload_n 1, 1) := by decide +kernel
theorem dX6_wantsPlaces_57 : decode cX6_wantsPlaces 57 = .ok (.iload_n 3, 1) := by decide +kernel
theorem dX6_wantsPlaces_58 : decode cX6_wantsPlaces 58 = .ok (.iload 4, 2) := by decide +kernel
theorem dX6_wantsPlaces_60 : decode cX6_wantsPlaces 60 = .ok (.invokevirtual 262, 3) := by decide +kernel
theorem dX6_wantsPlaces_63 : decode cX6_wantsPlaces 63 = .ok (.ldc2_w 136, 3) := by decide +kernel
theorem dX6_wantsPlaces_66 : decode cX6_wantsPlaces 66 = .ok (.ldc2_w 78, 3) := by decide +kernel
theorem dX6_wantsPlaces_69 : decode cX6_wantsPlaces 69 = .ok (.invokestatic 42, 3) := by decide +kernel
theorem dX6_wantsPlaces_72 : decode cX6_wantsPlaces 72 = .ok (.ifCond .eq 7, 3) := by decide +kernel
theorem dX6_wantsPlaces_75 : decode cX6_wantsPlaces 75 = .ok (.iload_n 2, 1) := by decide +kernel
theorem dX6_wantsPlaces_76 : decode cX6_wantsPlaces 76 = .ok (.goto 5, 3) := by decide +kernel
theorem dX6_wantsPlaces_79 : decode cX6_wantsPlaces 79 = .ok (.ldc 109, 2) := by decide +kernel
theorem dX6_wantsPlaces_81 : decode cX6_wantsPlaces 81 = .ok (.istore_n 2, 1) := by decide +kernel
theorem dX6_wantsPlaces_82 : decode cX6_wantsPlaces 82 = .ok (.iinc 4 1, 3) := by decide +kernel
theorem dX6_wantsPlaces_85 : decode cX6_wantsPlaces 85 = .ok (.goto (-36), 3) := by decide +kernel
theorem dX6_wantsPlaces_88 : decode cX6_wantsPlaces 88 = .ok (.iinc 3 1, 3) := by decide +kernel
theorem dX6_wantsPlaces_91 : decode cX6_wantsPlaces 91 = .ok (.goto (-59), 3) := by decide +kernel
theorem dX6_wantsPlaces_94 : decode cX6_wantsPlaces 94 = .ok (.iload_n 2, 1) := by decide +kernel
theorem dX6_wantsPlaces_95 : decode cX6_wantsPlaces 95 = .ok (.ireturn, 1) := by decide +kernel
theorem dX6_judge_0 : decode cX6_judge 0 = .ok (.aload_n 0, 1) := by decide +kernel
theorem dX6_judge_1 : decode cX6_judge 1 = .ok (.iload_n 1, 1) := by decide +kernel
theorem dX6_judge_2 : decode cX6_judge 2 = .ok (.invokevirtual 266, 3) := by decide +kernel
theorem dX6_judge_5 : decode cX6_judge 5 = .ok (.istore_n 2, 1) := by decide +kernel
theorem dX6_judge_6 : decode cX6_judge 6 = .ok (.iload_n 2, 1) := by decide +kernel
theorem dX6_judge_7 : decode cX6_judge 7 = .ok (.ifCond .eq 9, 3) := by decide +kernel
theorem dX6_judge_10 : decode cX6_judge 10 = .ok (.aload_n 0, 1) := by decide +kernel
theorem dX6_judge_11 : decode cX6_judge 11 = .ok (.iload_n 2, 1) := by decide +kernel
theorem dX6_judge_12 : decode cX6_judge 12 = .ok (.invokevirtual 47, 3) := by decide +kernel
theorem dX6_judge_15 : decode cX6_judge 15 = .ok (.ireturn, 1) := by decide +kernel
theorem dX6_judge_16 : decode cX6_judge 16 = .ok (.aload_n 0, 1) := by decide +kernel
theorem dX6_judge_17 : decode cX6_judge 17 = .ok (.iconst 0, 1) := by decide +kernel
theorem dX6_judge_18 : decode cX6_judge 18 = .ok (.invokevirtual 96, 3) := by decide +kernel
theorem dX6_judge_21 : decode cX6_judge 21 = .ok (.istore_n 3, 1) := by decide +kernel
theorem dX6_judge_22 : decode cX6_judge 22 = .ok (.iconst 0, 1) := by decide +kernel
theorem dX6_judge_23 : decode cX6_judge 23 = .ok (.istore 4, 2) := by decide +kernel
theorem dX6_judge_25 : decode cX6_judge 25 = .ok (.iconst 0, 1) := by decide +kernel
theorem dX6_judge_26 : decode cX6_judge 26 = .ok (.istore 5, 2) := by decide +kernel
theorem dX6_judge_28 : decode cX6_judge 28 = .ok (.iload 5, 2) := by decide +kernel
theorem dX6_judge_30 : decode cX6_judge 30 = .ok (.aload_n 0, 1) := by decide +kernel
theorem dX6_judge_31 : decode cX6_judge 31 = .ok (.getfield 7, 3) := by decide +kernel
theorem dX6_judge_34 : decode cX6_judge 34 = .ok (.iconst 0, 1) := by decide +kernel
theorem dX6_judge_35 : decode cX6_judge 35 = .ok (.iaload, 1) := by decide +kernel
theorem dX6_judge_36 : decode cX6_judge 36 = .ok (.if_icmp .ge 115, 3) := by decide +kernel
theorem dX6_judge_39 : decode cX6_judge 39 = .ok (.aload_n 0, 1) := by decide +kernel
theorem dX6_judge_40 : decode cX6_judge 40 = .ok (.iload 5, 2) := by decide +kernel
theorem dX6_judge_42 : decode cX6_judge 42 = .ok (.iconst 1, 1) := by decide +kernel
theorem dX6_judge_43 : decode cX6_judge 43 = .ok (.invokevirtual 51, 3) := by decide +kernel
theorem dX6_judge_46 : decode cX6_judge 46 = .ok (.aload_n 0, 1) := by decide +kernel
theorem dX6_judge_47 : decode cX6_judge 47 = .ok (.getfield 28, 3) := by decide +kernel
theorem dX6_judge_50 : decode cX6_judge 50 = .ok (.iload_n 1, 1) := by decide +kernel
theorem dX6_judge_51 : decode cX6_judge 51 = .ok (.iaload, 1) := by decide +kernel
theorem dX6_judge_52 : decode cX6_judge 52 = .ok (.if_icmp .ge 23, 3) := by decide +kernel
theorem dX6_judge_55 : decode cX6_judge 55 = .ok (.aload_n 0, 1) := by decide +kernel
theorem dX6_judge_56 : decode cX6_judge 56 = .ok (.iload 5, 2) := by decide +kernel
theorem dX6_judge_58 : decode cX6_judge 58 = .ok (.iconst 2, 1) := by decide +kernel
theorem dX6_judge_59 : decode cX6_judge 59 = .ok (.invokevirtual 51, 3) := by decide +kernel
theorem dX6_judge_62 : decode cX6_judge 62 = .ok (.aload_n 0, 1) := by decide +kernel
theorem dX6_judge_63 : decode cX6_judge 63 = .ok (.getfield 28, 3) := by decide +kernel
theorem dX6_judge_66 : decode cX6_judge 66 = .ok (.iload_n 1, 1) := by decide +kernel
theorem dX6_judge_67 : decode cX6_judge 67 = .ok (.iaload, 1) := by decide +kernel
theorem dX6_judge_68 : decode cX6_judge 68 = .ok (.if_icmp .ge 7, 3) := by decide +kernel
theorem dX6_judge_71 : decode cX6_judge 71 = .ok (.iconst 1, 1) := by decide +kernel
theorem dX6_judge_72 : decode cX6_judge 72 = .ok (.goto 4, 3) := by decide +kernel
theorem dX6_judge_75 : decode cX6_judge 75 = .ok (.iconst 0, 1) := by decide +kernel
theorem dX6_judge_76 : decode cX6_judge 76 = .ok (.istore 6, 2) := by decide +kernel
theorem dX6_judge_78 : decode cX6_judge 78 = .ok (.iload 4, 2) := by decide +kernel
theorem dX6_judge_80 : decode cX6_judge 80 = .ok (.iload_n 3, 1) := by decide +kernel
theorem dX6_judge_81 : decode cX6_judge 81 = .ok (.iload 5, 2) := by decide +kernel
theorem dX6_judge_83 : decode cX6_judge 83 = .ok (.ishr, 1) := by decide +kernel
theorem dX6_judge_84 : decode cX6_judge 84 = .ok (.iconst 1, 1) := by decide +kernel
theorem dX6_judge_85 : decode cX6_judge 85 = .ok (.iand, 1) := by decide +kernel
theorem dX6_judge_86 : decode cX6_judge 86 = .ok (.iconst 1, 1) := by decide +kernel
theorem dX6_judge_87 : decode cX6_judge 87 = .ok (.if_icmp .ne 54, 3) := by decide +kernel
theorem dX6_judge_90 : decode cX6_judge 90 = .ok (.iload 6, 2) := by decide +kernel
theorem dX6_judge_92 : decode cX6_judge 92 = .ok (.ifCond .eq 49, 3) := by decide +kernel
theorem dX6_judge_95 : decode cX6_judge 95 = .ok (.aload_n 0, 1) := by decide +kernel
theorem dX6_judge_96 : decode cX6_judge 96 = .ok (.iload_n 1, 1) := by decide +kernel
theorem dX6_judge_97 : decode cX6_judge 97 = .ok (.aload_n 0, 1) := by decide +kernel
theorem dX6_judge_98 : decode cX6_judge 98 = .ok (.iload 5, 2) := by decide +kernel
theorem dX6_judge_100 : decode cX6_judge 100 = .ok (.iconst 1, 1) := by decide +kernel
theorem dX6_judge_101 : decode cX6_judge 101 = .ok (.invokevirtual 51, 3) := by decide +kernel
theorem dX6_judge_104 : decode cX6_judge 104 = .ok (.aload_n 0, 1) := by decide +kernel
theorem dX6_judge_105 : decode cX6_judge 105 = .ok (.iload 5, 2) := by decide +kernel
theorem dX6_judge_107 : decode cX6_judge 107 = .ok (.iconst 2, 1) := by decide +kernel
theorem dX6_judge_108 : decode cX6_judge 108 = .ok (.invokevirtual 51, 3) := by decide +kernel
theorem dX6_judge_111 : decode cX6_judge 111 = .ok (.invokevirtual 262, 3) := by decide +kernel
theorem dX6_judge_114 : decode cX6_judge 114 = .ok (.aload_n 0, 1) := by decide +kernel
theorem dX6_judge_115 : decode cX6_judge 115 = .ok (.iload 5, 2) := by decide +kernel
theorem dX6_judge_117 : decode cX6_judge 117 = .ok (.invokevirtual 90, 3) := by decide +kernel
theorem dX6_judge_120 : decode cX6_judge 120 = .ok (.i2l, 1) := by decide +kernel
theorem dX6_judge_121 : decode cX6_judge 121 = .ok (.aload_n 0, 1) := by decide +kernel
theorem dX6_judge_122 : decode cX6_judge 122 = .ok (.iload 5, 2) := by decide +kernel
theorem dX6_judge_124 : decode cX6_judge 124 = .ok (.invokevirtual 93, 3) := by decide +kernel
theorem dX6_judge_127 : decode cX6_judge 127 = .ok (.i2l, 1) := by decide +kernel
theorem dX6_judge_128 : decode cX6_judge 128 = .ok (.invokestatic 42, 3) := by decide +kernel
theorem dX6_judge_131 : decode cX6_judge 131 = .ok (.ifCond .ne 10, 3) := by decide +kernel
theorem dX6_judge_134 : decode cX6_judge 134 = .ok (.iconst 1, 1) := by decide +kernel
theorem dX6_judge_135 : decode cX6_judge 135 = .ok (.iload 5, 2) := by decide +kernel
theorem dX6_judge_137 : decode cX6_judge 137 = .ok (.ishl, 1) := by decide +kernel
theorem dX6_judge_138 : decode cX6_judge 138 = .ok (.goto 4, 3) := by decide +kernel
theorem dX6_judge_141 : decode cX6_judge 141 = .ok (.iconst 0, 1) := by decide +kernel
theorem dX6_judge_142 : decode cX6_judge 142 = .ok (.ior, 1) := by decide +kernel
theorem dX6_judge_143 : decode cX6_judge 143 = .ok (.istore 4, 2) := by decide +kernel
theorem dX6_judge_145 : decode cX6_judge 145 = .ok (.iinc 5 1, 3) := by decide +kernel
theorem dX6_judge_148 : decode cX6_judge 148 = .ok (.goto (-120), 3) := by decide +kernel
theorem dX6_judge_151 : decode cX6_judge 151 = .ok (.iload 4, 2) := by decide +kernel
theorem dX6_judge_153 : decode cX6_judge 153 = .ok (.ireturn, 1) := by decide +kernel
theorem dX6_maps_0 : decode cX6_maps 0 = .ok (.aload_n 0, 1) := by decide +kernel
theorem dX6_maps_1 : decode cX6_maps 1 = .ok (.iload_n 1, 1) := by decide +kernel
theorem dX6_maps_2 : decode cX6_maps 2 = .ok (.invokevirtual 266, 3) := by decide +kernel
theorem dX6_maps_5 : decode cX6_maps 5 = .ok (.istore_n 2, 1) := by decide +kernel
theorem dX6_maps_6 : decode cX6_maps 6 = .ok (.iload_n 2, 1) := by decide +kernel
theorem dX6_maps_7 : decode cX6_maps 7 = .ok (.ifCond .eq 9, 3) := by decide +kernel
theorem dX6_maps_10 : decode cX6_maps 10 = .ok (.aload_n 0, 1) := by decide +kernel
theorem dX6_maps_11 : decode cX6_maps 11 = .ok (.iload_n 2, 1) := by decide +kernel
theorem dX6_maps_12 : decode cX6_maps 12 = .ok (.invokevirtual 47, 3) := by decide +kernel
theorem dX6_maps_15 : decode cX6_maps 15 = .ok (.ireturn, 1) := by decide +kernel
theorem dX6_maps_16 : decode cX6_maps 16 = .ok (.aload_n 0, 1) := by decide +kernel
theorem dX6_maps_17 : decode cX6_maps 17 = .ok (.aload_n 0, 1) := by decide +kernel
theorem dX6_maps_18 : decode cX6_maps 18 = .ok (.iconst 0, 1) := by decide +kernel
theorem dX6_maps_19 : decode cX6_maps 19 = .ok (.invokevirtual 96, 3) := by decide +kernel
theorem dX6_maps_22 : decode cX6_maps 22 = .ok (.invokevirtual 114, 3) := by decide +kernel
theorem dX6_maps_25 : decode cX6_maps 25 = .ok (.iconst 0, 1) := by decide +kernel
theorem dX6_maps_26 : decode cX6_maps 26 = .ok (.istore_n 3, 1) := by decide +kernel
theorem dX6_maps_27 : decode cX6_maps 27 = .ok (.iload_n 3, 1) := by decide +kernel
theorem dX6_maps_28 : decode cX6_maps 28 = .ok (.aload_n 0, 1) := by decide +kernel
theorem dX6_maps_29 : decode cX6_maps 29 = .ok (.getfield 28, 3) := by decide +kernel
theorem dX6_maps_32 : decode cX6_maps 32 = .ok (.iload_n 1, 1) := by decide +kernel
theorem dX6_maps_33 : decode cX6_maps 33 = .ok (.iaload, 1) := by decide +kernel
theorem dX6_maps_34 : decode cX6_maps 34 = .ok (.if_icmp .ge 45, 3) := by decide +kernel
theorem dX6_maps_37 : decode cX6_maps 37 = .ok (.iconst 0, 1) := by decide +kernel
theorem dX6_maps_38 : decode cX6_maps 38 = .ok (.istore 4, 2) := by decide +kernel
theorem dX6_maps_40 : decode cX6_maps 40 = .ok (.iload 4, 2) := by decide +kernel
theorem dX6_maps_42 : decode cX6_maps 42 = .ok (.aload_n 0, 1) := by decide +kernel
theorem dX6_maps_43 : decode cX6_maps 43 = .ok (.getfield 28, 3) := by decide +kernel
theorem dX6_maps_46 : decode cX6_maps 46 = .ok (.iload_n 1, 1) := by decide +kernel
theorem dX6_maps_47 : decode cX6_maps 47 = .ok (.iaload, 1) := by decide +kernel
theorem dX6_maps_48 : decode cX6_maps 48 = .ok (.if_icmp .ge 25, 3) := by decide +kernel
theorem dX6_maps_51 : decode cX6_maps 51 = .ok (.aload_n 0, 1) := by decide +kernel
theorem dX6_maps_52 : decode cX6_maps 52 = .ok (.iload_n 3, 1) := by decide +kernel
theorem dX6_maps_53 : decode cX6_maps 53 = .ok (.iload 4, 2) := by decide +kernel
theorem dX6_maps_55 : decode cX6_maps 55 = .ok (.aload_n 0, 1) := by decide +kernel
theorem dX6_maps_56 : decode cX6_maps 56 = .ok (.iload_n 1, 1) := by decide +kernel
theorem dX6_maps_57 : decode cX6_maps 57 = .ok (.iload_n 3, 1) := by decide +kernel
theorem dX6_maps_58 : decode cX6_maps 58 = .ok (.iload 4, 2) := by decide +kernel
theorem dX6_maps_60 : decode cX6_maps 60 = .ok (.invokevirtual 262, 3) := by decide +kernel
theorem dX6_maps_63 : decode cX6_maps 63 = .ok (.l2i, 1) := by decide +kernel
theorem dX6_maps_64 : decode cX6_maps 64 = .ok (.invokevirtual 110, 3) := by decide +kernel
theorem dX6_maps_67 : decode cX6_maps 67 = .ok (.iinc 4 1, 3) := by decide +kernel
theorem dX6_maps_70 : decode cX6_maps 70 = .ok (.goto (-30), 3) := by decide +kernel
theorem dX6_maps_73 : decode cX6_maps 73 = .ok (.iinc 3 1, 3) := by decide +kernel
theorem dX6_maps_76 : decode cX6_maps 76 = .ok (.goto (-49), 3) := by decide +kernel
theorem dX6_maps_79 : decode cX6_maps 79 = .ok (.aload_n 0, 1) := by decide +kernel
theorem dX6_maps_80 : decode cX6_maps 80 = .ok (.invokevirtual 118, 3) := by decide +kernel
theorem dX6_maps_83 : decode cX6_maps 83 = .ok (.ifCond .eq 7, 3) := by decide +kernel
theorem dX6_maps_86 : decode cX6_maps 86 = .ok (.iconst 1, 1) := by decide +kernel
theorem dX6_maps_87 : decode cX6_maps 87 = .ok (.goto 4, 3) := by decide +kernel
theorem dX6_maps_90 : decode cX6_maps 90 = .ok (.iconst 0, 1) := by decide +kernel
theorem dX6_maps_91 : decode cX6_maps 91 = .ok (.ireturn, 1) := by decide +kernel
theorem dX6_image_0 : decode cX6_image 0 = .ok (.aload_n 0, 1) := by decide +kernel
theorem dX6_image_1 : decode cX6_image 1 = .ok (.getfield 7, 3) := by decide +kernel
theorem dX6_image_4 : decode cX6_image 4 = .ok (.aload_n 0, 1) := by decide +kernel
theorem dX6_image_5 : decode cX6_image 5 = .ok (.getfield 13, 3) := by decide +kernel
theorem dX6_image_8 : decode cX6_image 8 = .ok (.invokestatic 243, 3) := by decide +kernel
theorem dX6_image_11 : decode cX6_image 11 = .ok (.aload_n 0, 1) := by decide +kernel
theorem dX6_image_12 : decode cX6_image 12 = .ok (.iconst 1, 1) := by decide +kernel
theorem dX6_image_13 : decode cX6_image 13 = .ok (.putfield 269, 3) := by decide +kernel
theorem dX6_image_16 : decode cX6_image 16 = .ok (.iconst 1, 1) := by decide +kernel
theorem dX6_image_17 : decode cX6_image 17 = .ok (.ireturn, 1) := by decide +kernel
theorem dX6_undo_0 : decode cX6_undo 0 = .ok (.aload_n 0, 1) := by decide +kernel
theorem dX6_undo_1 : decode cX6_undo 1 = .ok (.getfield 269, 3) := by decide +kernel
theorem dX6_undo_4 : decode cX6_undo 4 = .ok (.ifCond .ne 10, 3) := by decide +kernel
theorem dX6_undo_7 : decode cX6_undo 7 = .ok (.aload_n 0, 1) := by decide +kernel
theorem dX6_undo_8 : decode cX6_undo 8 = .ok (.ldc 46, 2) := by decide +kernel
theorem dX6_undo_10 : decode cX6_undo 10 = .ok (.invokevirtual 47, 3) := by decide +kernel
theorem dX6_undo_13 : decode cX6_undo 13 = .ok (.ireturn, 1) := by decide +kernel
theorem dX6_undo_14 : decode cX6_undo 14 = .ok (.aload_n 0, 1) := by decide +kernel
theorem dX6_undo_15 : decode cX6_undo 15 = .ok (.getfield 13, 3) := by decide +kernel
theorem dX6_undo_18 : decode cX6_undo 18 = .ok (.aload_n 0, 1) := by decide +kernel
theorem dX6_undo_19 : decode cX6_undo 19 = .ok (.getfield 7, 3) := by decide +kernel
theorem dX6_undo_22 : decode cX6_undo 22 = .ok (.invokestatic 243, 3) := by decide +kernel
theorem dX6_undo_25 : decode cX6_undo 25 = .ok (.aload_n 0, 1) := by decide +kernel
theorem dX6_undo_26 : decode cX6_undo 26 = .ok (.getfield 7, 3) := by decide +kernel
theorem dX6_undo_29 : decode cX6_undo 29 = .ok (.iconst 1, 1) := by decide +kernel
theorem dX6_undo_30 : decode cX6_undo 30 = .ok (.iaload, 1) := by decide +kernel
theorem dX6_undo_31 : decode cX6_undo 31 = .ok (.ireturn, 1) := by decide +kernel
theorem dX6_tear_0 : decode cX6_tear 0 = .ok (.aload_n 0, 1) := by decide +kernel
theorem dX6_tear_1 : decode cX6_tear 1 = .ok (.getfield 269, 3) := by decide +kernel
theorem dX6_tear_4 : decode cX6_tear 4 = .ok (.istore_n 1, 1) := by decide +kernel
theorem dX6_tear_5 : decode cX6_tear 5 = .ok (.aload_n 0, 1) := by decide +kernel
theorem dX6_tear_6 : decode cX6_tear 6 = .ok (.iconst 0, 1) := by decide +kernel
theorem dX6_tear_7 : decode cX6_tear 7 = .ok (.putfield 269, 3) := by decide +kernel
theorem dX6_tear_10 : decode cX6_tear 10 = .ok (.iload_n 1, 1) := by decide +kernel
theorem dX6_tear_11 : decode cX6_tear 11 = .ok (.ifCond .eq 7, 3) := by decide +kernel
theorem dX6_tear_14 : decode cX6_tear 14 = .ok (.iconst 1, 1) := by decide +kernel
theorem dX6_tear_15 : decode cX6_tear 15 = .ok (.goto 4, 3) := by decide +kernel
theorem dX6_tear_18 : decode cX6_tear 18 = .ok (.iconst 0, 1) := by decide +kernel
theorem dX6_tear_19 : decode cX6_tear 19 = .ok (.ireturn, 1) := by decide +kernel
theorem dX6_count_0 : decode cX6_count 0 = .ok (.iconst 0, 1) := by decide +kernel
theorem dX6_count_1 : decode cX6_count 1 = .ok (.istore_n 2, 1) := by decide +kernel
theorem dX6_count_2 : decode cX6_count 2 = .ok (.iload_n 1, 1) := by decide +kernel
theorem dX6_count_3 : decode cX6_count 3 = .ok (.tableswitch 153 0 7 #[45, 52, 59, 68, 76, 105, 110, 117], 45) := by decide +kernel
theorem dX6_count_48 : decode cX6_count 48 = .ok (.aload_n 0, 1) := by decide +kernel
theorem dX6_count_49 : decode cX6_count 49 = .ok (.getfield 7, 3) := by decide +kernel
theorem dX6_count_52 : decode cX6_count 52 = .ok (.iconst 1, 1) := by decide +kernel
theorem dX6_count_53 : decode cX6_count 53 = .ok (.iaload, 1) := by decide +kernel
theorem dX6_count_54 : decode cX6_count 54 = .ok (.ireturn, 1) := by decide +kernel
theorem dX6_count_55 : decode cX6_count 55 = .ok (.aload_n 0, 1) := by decide +kernel
theorem dX6_count_56 : decode cX6_count 56 = .ok (.getfield 7, 3) := by decide +kernel
theorem dX6_count_59 : decode cX6_count 59 = .ok (.iconst 0, 1) := by decide +kernel
theorem dX6_count_60 : decode cX6_count 60 = .ok (.iaload, 1) := by decide +kernel
theorem dX6_count_61 : decode cX6_count 61 = .ok (.ireturn, 1) := by decide +kernel
theorem dX6_count_62 : decode cX6_count 62 = .ok (.aload_n 0, 1) := by decide +kernel
theorem dX6_count_63 : decode cX6_count 63 = .ok (.iconst 0, 1) := by decide +kernel
theorem dX6_count_64 : decode cX6_count 64 = .ok (.invokevirtual 96, 3) := by decide +kernel
theorem dX6_count_67 : decode cX6_count 67 = .ok (.invokestatic 147, 3) := by decide +kernel
theorem dX6_count_70 : decode cX6_count 70 = .ok (.ireturn, 1) := by decide +kernel
theorem dX6_count_71 : decode cX6_count 71 = .ok (.aload_n 0, 1) := by decide +kernel
theorem dX6_count_72 : decode cX6_count 72 = .ok (.invokevirtual 61, 3) := by decide +kernel
theorem dX6_count_75 : decode cX6_count 75 = .ok (.invokestatic 147, 3) := by decide +kernel
theorem dX6_count_78 : decode cX6_count 78 = .ok (.ireturn, 1) := by decide +kernel
theorem dX6_count_79 : decode cX6_count 79 = .ok (.iconst 0, 1) := by decide +kernel
theorem dX6_count_80 : decode cX6_count 80 = .ok (.istore_n 3, 1) := by decide +kernel
theorem dX6_count_81 : decode cX6_count 81 = .ok (.iload_n 3, 1) := by decide +kernel
theorem dX6_count_82 : decode cX6_count 82 = .ok (.aload_n 0, 1) := by decide +kernel
theorem dX6_count_83 : decode cX6_count 83 = .ok (.getfield 7, 3) := by decide +kernel
theorem dX6_count_86 : decode cX6_count 86 = .ok (.iconst 0, 1) := by decide +kernel
theorem dX6_count_87 : decode cX6_count 87 = .ok (.iaload, 1) := by decide +kernel
theorem dX6_count_88 : decode cX6_count 88 = .ok (.if_icmp .ge 18, 3) := by decide +kernel
theorem dX6_count_91 : decode cX6_count 91 = .ok (.iload_n 2, 1) := by decide +kernel
theorem dX6_count_92 : decode cX6_count 92 = .ok (.aload_n 0, 1) := by decide +kernel
theorem dX6_count_93 : decode cX6_count 93 = .ok (.iload_n 3, 1) := by decide +kernel
theorem dX6_count_94 : decode cX6_count 94 = .ok (.iconst 3, 1) := by decide +kernel
theorem dX6_count_95 : decode cX6_count 95 = .ok (.invokevirtual 51, 3) := by decide +kernel
theorem dX6_count_98 : decode cX6_count 98 = .ok (.iadd, 1) := by decide +kernel
theorem dX6_count_99 : decode cX6_count 99 = .ok (.istore_n 2, 1) := by decide +kernel
theorem dX6_count_100 : decode cX6_count 100 = .ok (.iinc 3 1, 3) := by decide +kernel
theorem dX6_count_103 : decode cX6_count 103 = .ok (.goto (-22), 3) := by decide +kernel
theorem dX6_count_106 : decode cX6_count 106 = .ok (.iload_n 2, 1) := by decide +kernel
theorem dX6_count_107 : decode cX6_count 107 = .ok (.ireturn, 1) := by decide +kernel
theorem dX6_count_108 : decode cX6_count 108 = .ok (.aload_n 0, 1) := by decide +kernel
theorem dX6_count_109 : decode cX6_count 109 = .ok (.getfield 165, 3) := by decide +kernel
theorem dX6_count_112 : decode cX6_count 112 = .ok (.ireturn, 1) := by decide +kernel
theorem dX6_count_113 : decode cX6_count 113 = .ok (.aload_n 0, 1) := by decide +kernel
theorem dX6_count_114 : decode cX6_count 114 = .ok (.getfield 7, 3) := by decide +kernel
theorem dX6_count_117 : decode cX6_count 117 = .ok (.iconst 4, 1) := by decide +kernel
theorem dX6_count_118 : decode cX6_count 118 = .ok (.iaload, 1) := by decide +kernel
theorem dX6_count_119 : decode cX6_count 119 = .ok (.ireturn, 1) := by decide +kernel
theorem dX6_count_120 : decode cX6_count 120 = .ok (.iconst 0, 1) := by decide +kernel
theorem dX6_count_121 : decode cX6_count 121 = .ok (.istore_n 3, 1) := by decide +kernel
theorem dX6_count_122 : decode cX6_count 122 = .ok (.iload_n 3, 1) := by decide +kernel
theorem dX6_count_123 : decode cX6_count 123 = .ok (.bipush 10, 2) := by decide +kernel
theorem dX6_count_125 : decode cX6_count 125 = .ok (.if_icmp .ge 29, 3) := by decide +kernel
theorem dX6_count_128 : decode cX6_count 128 = .ok (.iload_n 2, 1) := by decide +kernel
theorem dX6_count_129 : decode cX6_count 129 = .ok (.aload_n 0, 1) := by decide +kernel
theorem dX6_count_130 : decode cX6_count 130 = .ok (.getfield 7, 3) := by decide +kernel
theorem dX6_count_133 : decode cX6_count 133 = .ok (.bipush 53, 2) := by decide +kernel
theorem dX6_count_135 : decode cX6_count 135 = .ok (.iload_n 3, 1) := by decide +kernel
theorem dX6_count_136 : decode cX6_count 136 = .ok (.iadd, 1) := by decide +kernel
theorem dX6_count_137 : decode cX6_count 137 = .ok (.iaload, 1) := by decide +kernel
theorem dX6_count_138 : decode cX6_count 138 = .ok (.ifCond .ge 7, 3) := by decide +kernel
theorem dX6_count_141 : decode cX6_count 141 = .ok (.iconst 0, 1) := by decide +kernel
theorem dX6_count_142 : decode cX6_count 142 = .ok (.goto 4, 3) := by decide +kernel
theorem dX6_count_145 : decode cX6_count 145 = .ok (.iconst 1, 1) := by decide +kernel
theorem dX6_count_146 : decode cX6_count 146 = .ok (.iadd, 1) := by decide +kernel
theorem dX6_count_147 : decode cX6_count 147 = .ok (.istore_n 2, 1) := by decide +kernel
theorem dX6_count_148 : decode cX6_count 148 = .ok (.iinc 3 1, 3) := by decide +kernel
theorem dX6_count_151 : decode cX6_count 151 = .ok (.goto (-29), 3) := by decide +kernel
theorem dX6_count_154 : decode cX6_count 154 = .ok (.iload_n 2, 1) := by decide +kernel
theorem dX6_count_155 : decode cX6_count 155 = .ok (.ireturn, 1) := by decide +kernel
theorem dX6_count_156 : decode cX6_count 156 = .ok (.aload_n 0, 1) := by decide +kernel
theorem dX6_count_157 : decode cX6_count 157 = .ok (.ldc 37, 2) := by decide +kernel
theorem dX6_count_159 : decode cX6_count 159 = .ok (.invokevirtual 47, 3) := by decide +kernel
theorem dX6_count_162 : decode cX6_count 162 = .ok (.ireturn, 1) := by decide +kernel
theorem dX6_status_0 : decode cX6_status 0 = .ok (.iload_n 1, 1) := by decide +kernel
theorem dX6_status_1 : decode cX6_status 1 = .ok (.i2l, 1) := by decide +kernel
theorem dX6_status_2 : decode cX6_status 2 = .ok (.ldc2_w 273, 3) := by decide +kernel
theorem dX6_status_5 : decode cX6_status 5 = .ok (.ldc2_w 68, 3) := by decide +kernel
theorem dX6_status_8 : decode cX6_status 8 = .ok (.invokestatic 42, 3) := by decide +kernel
theorem dX6_status_11 : decode cX6_status 11 = .ok (.ifCond .eq 14, 3) := by decide +kernel
theorem dX6_status_14 : decode cX6_status 14 = .ok (.aload_n 0, 1) := by decide +kernel
theorem dX6_status_15 : decode cX6_status 15 = .ok (.getfield 19, 3) := by decide +kernel
theorem dX6_status_18 : decode cX6_status 18 = .ok (.iload_n 1, 1) := by decide +kernel
theorem dX6_status_19 : decode cX6_status 19 = .ok (.iconst 1, 1) := by decide +kernel
theorem dX6_status_20 : decode cX6_status 20 = .ok (.iadd, 1) := by decide +kernel
theorem dX6_status_21 : decode cX6_status 21 = .ok (.iaload, 1) := by decide +kernel
theorem dX6_status_22 : decode cX6_status 22 = .ok (.goto 9, 3) := by decide +kernel
theorem dX6_status_25 : decode cX6_status 25 = .ok (.aload_n 0, 1) := by decide +kernel
theorem dX6_status_26 : decode cX6_status 26 = .ok (.ldc 37, 2) := by decide +kernel
theorem dX6_status_28 : decode cX6_status 28 = .ok (.invokevirtual 47, 3) := by decide +kernel
theorem dX6_status_31 : decode cX6_status 31 = .ok (.ireturn, 1) := by decide +kernel
end
section
theorem dL_law_0 : decode cL_law 0 = .ok (.new 7, 3) := by decide +kernel
theorem dL_law_3 : decode cL_law 3 = .ok (.dup, 1) := by decide +kernel
theorem dL_law_4 : decode cL_law 4 = .ok (.invokespecial 9, 3) := by decide +kernel
theorem dL_law_7 : decode cL_law 7 = .ok (.astore_n 1, 1) := by decide +kernel
theorem dL_law_8 : decode cL_law 8 = .ok (.new 10, 3) := by decide +kernel
theorem dL_law_11 : decode cL_law 11 = .ok (.dup, 1) := by decide +kernel
theorem dL_law_12 : decode cL_law 12 = .ok (.invokespecial 12, 3) := by decide +kernel
theorem dL_law_15 : decode cL_law 15 = .ok (.astore_n 2, 1) := by decide +kernel
theorem dL_law_16 : decode cL_law 16 = .ok (.iconst 0, 1) := by decide +kernel
theorem dL_law_17 : decode cL_law 17 = .ok (.istore_n 3, 1) := by decide +kernel
theorem dL_law_18 : decode cL_law 18 = .ok (.iload_n 3, 1) := by decide +kernel
theorem dL_law_19 : decode cL_law 19 = .ok (.aload_n 0, 1) := by decide +kernel
theorem dL_law_20 : decode cL_law 20 = .ok (.arraylength, 1) := by decide +kernel
theorem dL_law_21 : decode cL_law 21 = .ok (.bipush 6, 2) := by decide +kernel
theorem dL_law_23 : decode cL_law 23 = .ok (.isub, 1) := by decide +kernel
theorem dL_law_24 : decode cL_law 24 = .ok (.if_icmp .gt 1383, 3) := by decide +kernel
theorem dL_law_27 : decode cL_law 27 = .ok (.aload_n 0, 1) := by decide +kernel
theorem dL_law_28 : decode cL_law 28 = .ok (.iload_n 3, 1) := by decide +kernel
theorem dL_law_29 : decode cL_law 29 = .ok (.iaload, 1) := by decide +kernel
theorem dL_law_30 : decode cL_law 30 = .ok (.bipush 63, 2) := by decide +kernel
theorem dL_law_32 : decode cL_law 32 = .ok (.iand, 1) := by decide +kernel
theorem dL_law_33 : decode cL_law 33 = .ok (.tableswitch 1368 0 45 #[199, 262, 295, 338, 371, 394, 417, 430, 473, 496, 519, 532, 545, 588, 601, 624, 657, 680, 693, 706, 719, 732, 745, 778, 801, 824, 847, 860, 883, 917, 940, 973, 986, 999, 1032, 1065, 1108, 1151, 1214, 1237, 1260, 1283, 1296, 1309, 1322, 1345], 199) := by decide +kernel
theorem dL_law_232 : decode cL_law 232 = .ok (.aload_n 1, 1) := by decide +kernel
theorem dL_law_233 : decode cL_law 233 = .ok (.aload_n 0, 1) := by decide +kernel
theorem dL_law_234 : decode cL_law 234 = .ok (.iload_n 3, 1) := by decide +kernel
theorem dL_law_235 : decode cL_law 235 = .ok (.iconst 1, 1) := by decide +kernel
theorem dL_law_236 : decode cL_law 236 = .ok (.iadd, 1) := by decide +kernel
theorem dL_law_237 : decode cL_law 237 = .ok (.iaload, 1) := by decide +kernel
theorem dL_law_238 : decode cL_law 238 = .ok (.aload_n 0, 1) := by decide +kernel
theorem dL_law_239 : decode cL_law 239 = .ok (.iload_n 3, 1) := by decide +kernel
theorem dL_law_240 : decode cL_law 240 = .ok (.iconst 2, 1) := by decide +kernel
theorem dL_law_241 : decode cL_law 241 = .ok (.iadd, 1) := by decide +kernel
theorem dL_law_242 : decode cL_law 242 = .ok (.iaload, 1) := by decide +kernel
theorem dL_law_243 : decode cL_law 243 = .ok (.aload_n 0, 1) := by decide +kernel
theorem dL_law_244 : decode cL_law 244 = .ok (.iload_n 3, 1) := by decide +kernel
theorem dL_law_245 : decode cL_law 245 = .ok (.iconst 3, 1) := by decide +kernel
theorem dL_law_246 : decode cL_law 246 = .ok (.iadd, 1) := by decide +kernel
theorem dL_law_247 : decode cL_law 247 = .ok (.iaload, 1) := by decide +kernel
theorem dL_law_248 : decode cL_law 248 = .ok (.aload_n 0, 1) := by decide +kernel
theorem dL_law_249 : decode cL_law 249 = .ok (.iload_n 3, 1) := by decide +kernel
theorem dL_law_250 : decode cL_law 250 = .ok (.iconst 4, 1) := by decide +kernel
theorem dL_law_251 : decode cL_law 251 = .ok (.iadd, 1) := by decide +kernel
theorem dL_law_252 : decode cL_law 252 = .ok (.iaload, 1) := by decide +kernel
theorem dL_law_253 : decode cL_law 253 = .ok (.aload_n 0, 1) := by decide +kernel
theorem dL_law_254 : decode cL_law 254 = .ok (.iload_n 3, 1) := by decide +kernel
theorem dL_law_255 : decode cL_law 255 = .ok (.iconst 5, 1) := by decide +kernel
theorem dL_law_256 : decode cL_law 256 = .ok (.iadd, 1) := by decide +kernel
theorem dL_law_257 : decode cL_law 257 = .ok (.iaload, 1) := by decide +kernel
theorem dL_law_258 : decode cL_law 258 = .ok (.invokevirtual 13, 3) := by decide +kernel
theorem dL_law_261 : decode cL_law 261 = .ok (.aload_n 2, 1) := by decide +kernel
theorem dL_law_262 : decode cL_law 262 = .ok (.aload_n 0, 1) := by decide +kernel
theorem dL_law_263 : decode cL_law 263 = .ok (.iload_n 3, 1) := by decide +kernel
theorem dL_law_264 : decode cL_law 264 = .ok (.iconst 1, 1) := by decide +kernel
theorem dL_law_265 : decode cL_law 265 = .ok (.iadd, 1) := by decide +kernel
theorem dL_law_266 : decode cL_law 266 = .ok (.iaload, 1) := by decide +kernel
theorem dL_law_267 : decode cL_law 267 = .ok (.aload_n 0, 1) := by decide +kernel
theorem dL_law_268 : decode cL_law 268 = .ok (.iload_n 3, 1) := by decide +kernel
theorem dL_law_269 : decode cL_law 269 = .ok (.iconst 2, 1) := by decide +kernel
theorem dL_law_270 : decode cL_law 270 = .ok (.iadd, 1) := by decide +kernel
theorem dL_law_271 : decode cL_law 271 = .ok (.iaload, 1) := by decide +kernel
theorem dL_law_272 : decode cL_law 272 = .ok (.aload_n 0, 1) := by decide +kernel
theorem dL_law_273 : decode cL_law 273 = .ok (.iload_n 3, 1) := by decide +kernel
theorem dL_law_274 : decode cL_law 274 = .ok (.iconst 3, 1) := by decide +kernel
theorem dL_law_275 : decode cL_law 275 = .ok (.iadd, 1) := by decide +kernel
theorem dL_law_276 : decode cL_law 276 = .ok (.iaload, 1) := by decide +kernel
theorem dL_law_277 : decode cL_law 277 = .ok (.aload_n 0, 1) := by decide +kernel
theorem dL_law_278 : decode cL_law 278 = .ok (.iload_n 3, 1) := by decide +kernel
theorem dL_law_279 : decode cL_law 279 = .ok (.iconst 4, 1) := by decide +kernel
theorem dL_law_280 : decode cL_law 280 = .ok (.iadd, 1) := by decide +kernel
theorem dL_law_281 : decode cL_law 281 = .ok (.iaload, 1) := by decide +kernel
theorem dL_law_282 : decode cL_law 282 = .ok (.aload_n 0, 1) := by decide +kernel
theorem dL_law_283 : decode cL_law 283 = .ok (.iload_n 3, 1) := by decide +kernel
theorem dL_law_284 : decode cL_law 284 = .ok (.iconst 5, 1) := by decide +kernel
theorem dL_law_285 : decode cL_law 285 = .ok (.iadd, 1) := by decide +kernel
theorem dL_law_286 : decode cL_law 286 = .ok (.iaload, 1) := by decide +kernel
theorem dL_law_287 : decode cL_law 287 = .ok (.invokevirtual 17, 3) := by decide +kernel
theorem dL_law_290 : decode cL_law 290 = .ok (.if_icmp .eq 1111, 3) := by decide +kernel
theorem dL_law_293 : decode cL_law 293 = .ok (.iconst 0, 1) := by decide +kernel
theorem dL_law_294 : decode cL_law 294 = .ok (.ireturn, 1) := by decide +kernel
theorem dL_law_295 : decode cL_law 295 = .ok (.aload_n 1, 1) := by decide +kernel
theorem dL_law_296 : decode cL_law 296 = .ok (.aload_n 0, 1) := by decide +kernel
theorem dL_law_297 : decode cL_law 297 = .ok (.iload_n 3, 1) := by decide +kernel
theorem dL_law_298 : decode cL_law 298 = .ok (.iconst 1, 1) := by decide +kernel
theorem dL_law_299 : decode cL_law 299 = .ok (.iadd, 1) := by decide +kernel
theorem dL_law_300 : decode cL_law 300 = .ok (.iaload, 1) := by decide +kernel
theorem dL_law_301 : decode cL_law 301 = .ok (.aload_n 0, 1) := by decide +kernel
theorem dL_law_302 : decode cL_law 302 = .ok (.iload_n 3, 1) := by decide +kernel
theorem dL_law_303 : decode cL_law 303 = .ok (.iconst 2, 1) := by decide +kernel
theorem dL_law_304 : decode cL_law 304 = .ok (.iadd, 1) := by decide +kernel
theorem dL_law_305 : decode cL_law 305 = .ok (.iaload, 1) := by decide +kernel
theorem dL_law_306 : decode cL_law 306 = .ok (.invokevirtual 18, 3) := by decide +kernel
theorem dL_law_309 : decode cL_law 309 = .ok (.aload_n 2, 1) := by decide +kernel
theorem dL_law_310 : decode cL_law 310 = .ok (.aload_n 0, 1) := by decide +kernel
theorem dL_law_311 : decode cL_law 311 = .ok (.iload_n 3, 1) := by decide +kernel
theorem dL_law_312 : decode cL_law 312 = .ok (.iconst 1, 1) := by decide +kernel
theorem dL_law_313 : decode cL_law 313 = .ok (.iadd, 1) := by decide +kernel
theorem dL_law_314 : decode cL_law 314 = .ok (.iaload, 1) := by decide +kernel
theorem dL_law_315 : decode cL_law 315 = .ok (.aload_n 0, 1) := by decide +kernel
theorem dL_law_316 : decode cL_law 316 = .ok (.iload_n 3, 1) := by decide +kernel
theorem dL_law_317 : decode cL_law 317 = .ok (.iconst 2, 1) := by decide +kernel
theorem dL_law_318 : decode cL_law 318 = .ok (.iadd, 1) := by decide +kernel
theorem dL_law_319 : decode cL_law 319 = .ok (.iaload, 1) := by decide +kernel
theorem dL_law_320 : decode cL_law 320 = .ok (.invokevirtual 22, 3) := by decide +kernel
theorem dL_law_323 : decode cL_law 323 = .ok (.if_icmp .eq 1078, 3) := by decide +kernel
theorem dL_law_326 : decode cL_law 326 = .ok (.iconst 0, 1) := by decide +kernel
theorem dL_law_327 : decode cL_law 327 = .ok (.ireturn, 1) := by decide +kernel
theorem dL_law_328 : decode cL_law 328 = .ok (.aload_n 1, 1) := by decide +kernel
theorem dL_law_329 : decode cL_law 329 = .ok (.aload_n 0, 1) := by decide +kernel
theorem dL_law_330 : decode cL_law 330 = .ok (.iload_n 3, 1) := by decide +kernel
theorem dL_law_331 : decode cL_law 331 = .ok (.iconst 1, 1) := by decide +kernel
theorem dL_law_332 : decode cL_law 332 = .ok (.iadd, 1) := by decide +kernel
theorem dL_law_333 : decode cL_law 333 = .ok (.iaload, 1) := by decide +kernel
theorem dL_law_334 : decode cL_law 334 = .ok (.aload_n 0, 1) := by decide +kernel
theorem dL_law_335 : decode cL_law 335 = .ok (.iload_n 3, 1) := by decide +kernel
theorem dL_law_336 : decode cL_law 336 = .ok (.iconst 2, 1) := by decide +kernel
theorem dL_law_337 : decode cL_law 337 = .ok (.iadd, 1) := by decide +kernel
theorem dL_law_338 : decode cL_law 338 = .ok (.iaload, 1) := by decide +kernel
theorem dL_law_339 : decode cL_law 339 = .ok (.aload_n 0, 1) := by decide +kernel
theorem dL_law_340 : decode cL_law 340 = .ok (.iload_n 3, 1) := by decide +kernel
theorem dL_law_341 : decode cL_law 341 = .ok (.iconst 3, 1) := by decide +kernel
theorem dL_law_342 : decode cL_law 342 = .ok (.iadd, 1) := by decide +kernel
theorem dL_law_343 : decode cL_law 343 = .ok (.iaload, 1) := by decide +kernel
theorem dL_law_344 : decode cL_law 344 = .ok (.invokevirtual 23, 3) := by decide +kernel
theorem dL_law_347 : decode cL_law 347 = .ok (.aload_n 2, 1) := by decide +kernel
theorem dL_law_348 : decode cL_law 348 = .ok (.aload_n 0, 1) := by decide +kernel
theorem dL_law_349 : decode cL_law 349 = .ok (.iload_n 3, 1) := by decide +kernel
theorem dL_law_350 : decode cL_law 350 = .ok (.iconst 1, 1) := by decide +kernel
theorem dL_law_351 : decode cL_law 351 = .ok (.iadd, 1) := by decide +kernel
theorem dL_law_352 : decode cL_law 352 = .ok (.iaload, 1) := by decide +kernel
theorem dL_law_353 : decode cL_law 353 = .ok (.aload_n 0, 1) := by decide +kernel
theorem dL_law_354 : decode cL_law 354 = .ok (.iload_n 3, 1) := by decide +kernel
theorem dL_law_355 : decode cL_law 355 = .ok (.iconst 2, 1) := by decide +kernel
theorem dL_law_356 : decode cL_law 356 = .ok (.iadd, 1) := by decide +kernel
theorem dL_law_357 : decode cL_law 357 = .ok (.iaload, 1) := by decide +kernel
theorem dL_law_358 : decode cL_law 358 = .ok (.aload_n 0, 1) := by decide +kernel
theorem dL_law_359 : decode cL_law 359 = .ok (.iload_n 3, 1) := by decide +kernel
theorem dL_law_360 : decode cL_law 360 = .ok (.iconst 3, 1) := by decide +kernel
theorem dL_law_361 : decode cL_law 361 = .ok (.iadd, 1) := by decide +kernel
theorem dL_law_362 : decode cL_law 362 = .ok (.iaload, 1) := by decide +kernel
theorem dL_law_363 : decode cL_law 363 = .ok (.invokevirtual 27, 3) := by decide +kernel
theorem dL_law_366 : decode cL_law 366 = .ok (.if_icmp .eq 1035, 3) := by decide +kernel
theorem dL_law_369 : decode cL_law 369 = .ok (.iconst 0, 1) := by decide +kernel
theorem dL_law_370 : decode cL_law 370 = .ok (.ireturn, 1) := by decide +kernel
theorem dL_law_371 : decode cL_law 371 = .ok (.aload_n 1, 1) := by decide +kernel
theorem dL_law_372 : decode cL_law 372 = .ok (.aload_n 0, 1) := by decide +kernel
theorem dL_law_373 : decode cL_law 373 = .ok (.iload_n 3, 1) := by decide +kernel
theorem dL_law_374 : decode cL_law 374 = .ok (.iconst 1, 1) := by decide +kernel
theorem dL_law_375 : decode cL_law 375 = .ok (.iadd, 1) := by decide +kernel
theorem dL_law_376 : decode cL_law 376 = .ok (.iaload, 1) := by decide +kernel
theorem dL_law_377 : decode cL_law 377 = .ok (.aload_n 0, 1) := by decide +kernel
theorem dL_law_378 : decode cL_law 378 = .ok (.iload_n 3, 1) := by decide +kernel
theorem dL_law_379 : decode cL_law 379 = .ok (.iconst 2, 1) := by decide +kernel
theorem dL_law_380 : decode cL_law 380 = .ok (.iadd, 1) := by decide +kernel
theorem dL_law_381 : decode cL_law 381 = .ok (.iaload, 1) := by decide +kernel
theorem dL_law_382 : decode cL_law 382 = .ok (.invokevirtual 28, 3) := by decide +kernel
theorem dL_law_385 : decode cL_law 385 = .ok (.aload_n 2, 1) := by decide +kernel
theorem dL_law_386 : decode cL_law 386 = .ok (.aload_n 0, 1) := by decide +kernel
theorem dL_law_387 : decode cL_law 387 = .ok (.iload_n 3, 1) := by decide +kernel
theorem dL_law_388 : decode cL_law 388 = .ok (.iconst 1, 1) := by decide +kernel
theorem dL_law_389 : decode cL_law 389 = .ok (.iadd, 1) := by decide +kernel
theorem dL_law_390 : decode cL_law 390 = .ok (.iaload, 1) := by decide +kernel
theorem dL_law_391 : decode cL_law 391 = .ok (.aload_n 0, 1) := by decide +kernel
theorem dL_law_392 : decode cL_law 392 = .ok (.iload_n 3, 1) := by decide +kernel
theorem dL_law_393 : decode cL_law 393 = .ok (.iconst 2, 1) := by decide +kernel
theorem dL_law_394 : decode cL_law 394 = .ok (.iadd, 1) := by decide +kernel
theorem dL_law_395 : decode cL_law 395 = .ok (.iaload, 1) := by decide +kernel
theorem dL_law_396 : decode cL_law 396 = .ok (.invokevirtual 31, 3) := by decide +kernel
theorem dL_law_399 : decode cL_law 399 = .ok (.if_icmp .eq 1002, 3) := by decide +kernel
theorem dL_law_402 : decode cL_law 402 = .ok (.iconst 0, 1) := by decide +kernel
theorem dL_law_403 : decode cL_law 403 = .ok (.ireturn, 1) := by decide +kernel
theorem dL_law_404 : decode cL_law 404 = .ok (.aload_n 1, 1) := by decide +kernel
theorem dL_law_405 : decode cL_law 405 = .ok (.aload_n 0, 1) := by decide +kernel
theorem dL_law_406 : decode cL_law 406 = .ok (.iload_n 3, 1) := by decide +kernel
theorem dL_law_407 : decode cL_law 407 = .ok (.iconst 1, 1) := by decide +kernel
theorem dL_law_408 : decode cL_law 408 = .ok (.iadd, 1) := by decide +kernel
theorem dL_law_409 : decode cL_law 409 = .ok (.iaload, 1) := by decide +kernel
theorem dL_law_410 : decode cL_law 410 = .ok (.invokevirtual 32, 3) := by decide +kernel
theorem dL_law_413 : decode cL_law 413 = .ok (.aload_n 2, 1) := by decide +kernel
theorem dL_law_414 : decode cL_law 414 = .ok (.aload_n 0, 1) := by decide +kernel
theorem dL_law_415 : decode cL_law 415 = .ok (.iload_n 3, 1) := by decide +kernel
theorem dL_law_416 : decode cL_law 416 = .ok (.iconst 1, 1) := by decide +kernel
theorem dL_law_417 : decode cL_law 417 = .ok (.iadd, 1) := by decide +kernel
theorem dL_law_418 : decode cL_law 418 = .ok (.iaload, 1) := by decide +kernel
theorem dL_law_419 : decode cL_law 419 = .ok (.invokevirtual 36, 3) := by decide +kernel
theorem dL_law_422 : decode cL_law 422 = .ok (.if_icmp .eq 979, 3) := by decide +kernel
theorem dL_law_425 : decode cL_law 425 = .ok (.iconst 0, 1) := by decide +kernel
theorem dL_law_426 : decode cL_law 426 = .ok (.ireturn, 1) := by decide +kernel
theorem dL_law_427 : decode cL_law 427 = .ok (.aload_n 1, 1) := by decide +kernel
theorem dL_law_428 : decode cL_law 428 = .ok (.aload_n 0, 1) := by decide +kernel
theorem dL_law_429 : decode cL_law 429 = .ok (.iload_n 3, 1) := by decide +kernel
theorem dL_law_430 : decode cL_law 430 = .ok (.iconst 1, 1) := by decide +kernel
theorem dL_law_431 : decode cL_law 431 = .ok (.iadd, 1) := by decide +kernel
theorem dL_law_432 : decode cL_law 432 = .ok (.iaload, 1) := by decide +kernel
theorem dL_law_433 : decode cL_law 433 = .ok (.invokevirtual 37, 3) := by decide +kernel
theorem dL_law_436 : decode cL_law 436 = .ok (.aload_n 2, 1) := by decide +kernel
theorem dL_law_437 : decode cL_law 437 = .ok (.aload_n 0, 1) := by decide +kernel
theorem dL_law_438 : decode cL_law 438 = .ok (.iload_n 3, 1) := by decide +kernel
theorem dL_law_439 : decode cL_law 439 = .ok (.iconst 1, 1) := by decide +kernel
theorem dL_law_440 : decode cL_law 440 = .ok (.iadd, 1) := by decide +kernel
theorem dL_law_441 : decode cL_law 441 = .ok (.iaload, 1) := by decide +kernel
theorem dL_law_442 : decode cL_law 442 = .ok (.invokevirtual 40, 3) := by decide +kernel
theorem dL_law_445 : decode cL_law 445 = .ok (.if_icmp .eq 956, 3) := by decide +kernel
theorem dL_law_448 : decode cL_law 448 = .ok (.iconst 0, 1) := by decide +kernel
theorem dL_law_449 : decode cL_law 449 = .ok (.ireturn, 1) := by decide +kernel
theorem dL_law_450 : decode cL_law 450 = .ok (.aload_n 1, 1) := by decide +kernel
theorem dL_law_451 : decode cL_law 451 = .ok (.invokevirtual 41, 3) := by decide +kernel
theorem dL_law_454 : decode cL_law 454 = .ok (.aload_n 2, 1) := by decide +kernel
theorem dL_law_455 : decode cL_law 455 = .ok (.invokevirtual 45, 3) := by decide +kernel
theorem dL_law_458 : decode cL_law 458 = .ok (.if_icmp .eq 943, 3) := by decide +kernel
theorem dL_law_461 : decode cL_law 461 = .ok (.iconst 0, 1) := by decide +kernel
theorem dL_law_462 : decode cL_law 462 = .ok (.ireturn, 1) := by decide +kernel
theorem dL_law_463 : decode cL_law 463 = .ok (.aload_n 1, 1) := by decide +kernel
theorem dL_law_464 : decode cL_law 464 = .ok (.aload_n 0, 1) := by decide +kernel
theorem dL_law_465 : decode cL_law 465 = .ok (.iload_n 3, 1) := by decide +kernel
theorem dL_law_466 : decode cL_law 466 = .ok (.iconst 1, 1) := by decide +kernel
theorem dL_law_467 : decode cL_law 467 = .ok (.iadd, 1) := by decide +kernel
theorem dL_law_468 : decode cL_law 468 = .ok (.iaload, 1) := by decide +kernel
theorem dL_law_469 : decode cL_law 469 = .ok (.aload_n 0, 1) := by decide +kernel
theorem dL_law_470 : decode cL_law 470 = .ok (.iload_n 3, 1) := by decide +kernel
theorem dL_law_471 : decode cL_law 471 = .ok (.iconst 2, 1) := by decide +kernel
theorem dL_law_472 : decode cL_law 472 = .ok (.iadd, 1) := by decide +kernel
theorem dL_law_473 : decode cL_law 473 = .ok (.iaload, 1) := by decide +kernel
theorem dL_law_474 : decode cL_law 474 = .ok (.aload_n 0, 1) := by decide +kernel
theorem dL_law_475 : decode cL_law 475 = .ok (.iload_n 3, 1) := by decide +kernel
theorem dL_law_476 : decode cL_law 476 = .ok (.iconst 3, 1) := by decide +kernel
theorem dL_law_477 : decode cL_law 477 = .ok (.iadd, 1) := by decide +kernel
theorem dL_law_478 : decode cL_law 478 = .ok (.iaload, 1) := by decide +kernel
theorem dL_law_479 : decode cL_law 479 = .ok (.invokevirtual 46, 3) := by decide +kernel
theorem dL_law_482 : decode cL_law 482 = .ok (.aload_n 2, 1) := by decide +kernel
theorem dL_law_483 : decode cL_law 483 = .ok (.aload_n 0, 1) := by decide +kernel
theorem dL_law_484 : decode cL_law 484 = .ok (.iload_n 3, 1) := by decide +kernel
theorem dL_law_485 : decode cL_law 485 = .ok (.iconst 1, 1) := by decide +kernel
theorem dL_law_486 : decode cL_law 486 = .ok (.iadd, 1) := by decide +kernel
theorem dL_law_487 : decode cL_law 487 = .ok (.iaload, 1) := by decide +kernel
theorem dL_law_488 : decode cL_law 488 = .ok (.aload_n 0, 1) := by decide +kernel
theorem dL_law_489 : decode cL_law 489 = .ok (.iload_n 3, 1) := by decide +kernel
theorem dL_law_490 : decode cL_law 490 = .ok (.iconst 2, 1) := by decide +kernel
theorem dL_law_491 : decode cL_law 491 = .ok (.iadd, 1) := by decide +kernel
theorem dL_law_492 : decode cL_law 492 = .ok (.iaload, 1) := by decide +kernel
theorem dL_law_493 : decode cL_law 493 = .ok (.aload_n 0, 1) := by decide +kernel
theorem dL_law_494 : decode cL_law 494 = .ok (.iload_n 3, 1) := by decide +kernel
theorem dL_law_495 : decode cL_law 495 = .ok (.iconst 3, 1) := by decide +kernel
theorem dL_law_496 : decode cL_law 496 = .ok (.iadd, 1) := by decide +kernel
theorem dL_law_497 : decode cL_law 497 = .ok (.iaload, 1) := by decide +kernel
theorem dL_law_498 : decode cL_law 498 = .ok (.invokevirtual 49, 3) := by decide +kernel
theorem dL_law_501 : decode cL_law 501 = .ok (.if_icmp .eq 900, 3) := by decide +kernel
theorem dL_law_504 : decode cL_law 504 = .ok (.iconst 0, 1) := by decide +kernel
theorem dL_law_505 : decode cL_law 505 = .ok (.ireturn, 1) := by decide +kernel
theorem dL_law_506 : decode cL_law 506 = .ok (.aload_n 1, 1) := by decide +kernel
theorem dL_law_507 : decode cL_law 507 = .ok (.aload_n 0, 1) := by decide +kernel
theorem dL_law_508 : decode cL_law 508 = .ok (.iload_n 3, 1) := by decide +kernel
theorem dL_law_509 : decode cL_law 509 = .ok (.iconst 1, 1) := by decide +kernel
theorem dL_law_510 : decode cL_law 510 = .ok (.iadd, 1) := by decide +kernel
theorem dL_law_511 : decode cL_law 511 = .ok (.iaload, 1) := by decide +kernel
theorem dL_law_512 : decode cL_law 512 = .ok (.invokevirtual 50, 3) := by decide +kernel
theorem dL_law_515 : decode cL_law 515 = .ok (.aload_n 2, 1) := by decide +kernel
theorem dL_law_516 : decode cL_law 516 = .ok (.aload_n 0, 1) := by decide +kernel
theorem dL_law_517 : decode cL_law 517 = .ok (.iload_n 3, 1) := by decide +kernel
theorem dL_law_518 : decode cL_law 518 = .ok (.iconst 1, 1) := by decide +kernel
theorem dL_law_519 : decode cL_law 519 = .ok (.iadd, 1) := by decide +kernel
theorem dL_law_520 : decode cL_law 520 = .ok (.iaload, 1) := by decide +kernel
theorem dL_law_521 : decode cL_law 521 = .ok (.invokevirtual 53, 3) := by decide +kernel
theorem dL_law_524 : decode cL_law 524 = .ok (.if_icmp .eq 877, 3) := by decide +kernel
theorem dL_law_527 : decode cL_law 527 = .ok (.iconst 0, 1) := by decide +kernel
theorem dL_law_528 : decode cL_law 528 = .ok (.ireturn, 1) := by decide +kernel
theorem dL_law_529 : decode cL_law 529 = .ok (.aload_n 1, 1) := by decide +kernel
theorem dL_law_530 : decode cL_law 530 = .ok (.aload_n 0, 1) := by decide +kernel
theorem dL_law_531 : decode cL_law 531 = .ok (.iload_n 3, 1) := by decide +kernel
theorem dL_law_532 : decode cL_law 532 = .ok (.iconst 1, 1) := by decide +kernel
theorem dL_law_533 : decode cL_law 533 = .ok (.iadd, 1) := by decide +kernel
theorem dL_law_534 : decode cL_law 534 = .ok (.iaload, 1) := by decide +kernel
theorem dL_law_535 : decode cL_law 535 = .ok (.invokevirtual 54, 3) := by decide +kernel
theorem dL_law_538 : decode cL_law 538 = .ok (.aload_n 2, 1) := by decide +kernel
theorem dL_law_539 : decode cL_law 539 = .ok (.aload_n 0, 1) := by decide +kernel
theorem dL_law_540 : decode cL_law 540 = .ok (.iload_n 3, 1) := by decide +kernel
theorem dL_law_541 : decode cL_law 541 = .ok (.iconst 1, 1) := by decide +kernel
theorem dL_law_542 : decode cL_law 542 = .ok (.iadd, 1) := by decide +kernel
theorem dL_law_543 : decode cL_law 543 = .ok (.iaload, 1) := by decide +kernel
theorem dL_law_544 : decode cL_law 544 = .ok (.invokevirtual 57, 3) := by decide +kernel
theorem dL_law_547 : decode cL_law 547 = .ok (.if_icmp .eq 854, 3) := by decide +kernel
theorem dL_law_550 : decode cL_law 550 = .ok (.iconst 0, 1) := by decide +kernel
theorem dL_law_551 : decode cL_law 551 = .ok (.ireturn, 1) := by decide +kernel
theorem dL_law_552 : decode cL_law 552 = .ok (.aload_n 1, 1) := by decide +kernel
theorem dL_law_553 : decode cL_law 553 = .ok (.invokevirtual 58, 3) := by decide +kernel
theorem dL_law_556 : decode cL_law 556 = .ok (.aload_n 2, 1) := by decide +kernel
theorem dL_law_557 : decode cL_law 557 = .ok (.invokevirtual 61, 3) := by decide +kernel
theorem dL_law_560 : decode cL_law 560 = .ok (.if_icmp .eq 841, 3) := by decide +kernel
theorem dL_law_563 : decode cL_law 563 = .ok (.iconst 0, 1) := by decide +kernel
theorem dL_law_564 : decode cL_law 564 = .ok (.ireturn, 1) := by decide +kernel
theorem dL_law_565 : decode cL_law 565 = .ok (.aload_n 1, 1) := by decide +kernel
theorem dL_law_566 : decode cL_law 566 = .ok (.invokevirtual 62, 3) := by decide +kernel
theorem dL_law_569 : decode cL_law 569 = .ok (.aload_n 2, 1) := by decide +kernel
theorem dL_law_570 : decode cL_law 570 = .ok (.invokevirtual 65, 3) := by decide +kernel
theorem dL_law_573 : decode cL_law 573 = .ok (.if_icmp .eq 828, 3) := by decide +kernel
theorem dL_law_576 : decode cL_law 576 = .ok (.iconst 0, 1) := by decide +kernel
theorem dL_law_577 : decode cL_law 577 = .ok (.ireturn, 1) := by decide +kernel
theorem dL_law_578 : decode cL_law 578 = .ok (.aload_n 1, 1) := by decide +kernel
theorem dL_law_579 : decode cL_law 579 = .ok (.aload_n 0, 1) := by decide +kernel
theorem dL_law_580 : decode cL_law 580 = .ok (.iload_n 3, 1) := by decide +kernel
theorem dL_law_581 : decode cL_law 581 = .ok (.iconst 1, 1) := by decide +kernel
theorem dL_law_582 : decode cL_law 582 = .ok (.iadd, 1) := by decide +kernel
theorem dL_law_583 : decode cL_law 583 = .ok (.iaload, 1) := by decide +kernel
theorem dL_law_584 : decode cL_law 584 = .ok (.aload_n 0, 1) := by decide +kernel
theorem dL_law_585 : decode cL_law 585 = .ok (.iload_n 3, 1) := by decide +kernel
theorem dL_law_586 : decode cL_law 586 = .ok (.iconst 2, 1) := by decide +kernel
theorem dL_law_587 : decode cL_law 587 = .ok (.iadd, 1) := by decide +kernel
theorem dL_law_588 : decode cL_law 588 = .ok (.iaload, 1) := by decide +kernel
theorem dL_law_589 : decode cL_law 589 = .ok (.aload_n 0, 1) := by decide +kernel
theorem dL_law_590 : decode cL_law 590 = .ok (.iload_n 3, 1) := by decide +kernel
theorem dL_law_591 : decode cL_law 591 = .ok (.iconst 3, 1) := by decide +kernel
theorem dL_law_592 : decode cL_law 592 = .ok (.iadd, 1) := by decide +kernel
theorem dL_law_593 : decode cL_law 593 = .ok (.iaload, 1) := by decide +kernel
theorem dL_law_594 : decode cL_law 594 = .ok (.invokevirtual 66, 3) := by decide +kernel
theorem dL_law_597 : decode cL_law 597 = .ok (.aload_n 2, 1) := by decide +kernel
theorem dL_law_598 : decode cL_law 598 = .ok (.aload_n 0, 1) := by decide +kernel
theorem dL_law_599 : decode cL_law 599 = .ok (.iload_n 3, 1) := by decide +kernel
theorem dL_law_600 : decode cL_law 600 = .ok (.iconst 1, 1) := by decide +kernel
theorem dL_law_601 : decode cL_law 601 = .ok (.iadd, 1) := by decide +kernel
theorem dL_law_602 : decode cL_law 602 = .ok (.iaload, 1) := by decide +kernel
theorem dL_law_603 : decode cL_law 603 = .ok (.aload_n 0, 1) := by decide +kernel
theorem dL_law_604 : decode cL_law 604 = .ok (.iload_n 3, 1) := by decide +kernel
theorem dL_law_605 : decode cL_law 605 = .ok (.iconst 2, 1) := by decide +kernel
theorem dL_law_606 : decode cL_law 606 = .ok (.iadd, 1) := by decide +kernel
theorem dL_law_607 : decode cL_law 607 = .ok (.iaload, 1) := by decide +kernel
theorem dL_law_608 : decode cL_law 608 = .ok (.aload_n 0, 1) := by decide +kernel
theorem dL_law_609 : decode cL_law 609 = .ok (.iload_n 3, 1) := by decide +kernel
theorem dL_law_610 : decode cL_law 610 = .ok (.iconst 3, 1) := by decide +kernel
theorem dL_law_611 : decode cL_law 611 = .ok (.iadd, 1) := by decide +kernel
theorem dL_law_612 : decode cL_law 612 = .ok (.iaload, 1) := by decide +kernel
theorem dL_law_613 : decode cL_law 613 = .ok (.invokevirtual 69, 3) := by decide +kernel
theorem dL_law_616 : decode cL_law 616 = .ok (.if_icmp .eq 785, 3) := by decide +kernel
theorem dL_law_619 : decode cL_law 619 = .ok (.iconst 0, 1) := by decide +kernel
theorem dL_law_620 : decode cL_law 620 = .ok (.ireturn, 1) := by decide +kernel
theorem dL_law_621 : decode cL_law 621 = .ok (.aload_n 1, 1) := by decide +kernel
theorem dL_law_622 : decode cL_law 622 = .ok (.invokevirtual 70, 3) := by decide +kernel
theorem dL_law_625 : decode cL_law 625 = .ok (.aload_n 2, 1) := by decide +kernel
theorem dL_law_626 : decode cL_law 626 = .ok (.invokevirtual 73, 3) := by decide +kernel
theorem dL_law_629 : decode cL_law 629 = .ok (.if_icmp .eq 772, 3) := by decide +kernel
theorem dL_law_632 : decode cL_law 632 = .ok (.iconst 0, 1) := by decide +kernel
theorem dL_law_633 : decode cL_law 633 = .ok (.ireturn, 1) := by decide +kernel
theorem dL_law_634 : decode cL_law 634 = .ok (.aload_n 1, 1) := by decide +kernel
theorem dL_law_635 : decode cL_law 635 = .ok (.aload_n 0, 1) := by decide +kernel
theorem dL_law_636 : decode cL_law 636 = .ok (.iload_n 3, 1) := by decide +kernel
theorem dL_law_637 : decode cL_law 637 = .ok (.iconst 1, 1) := by decide +kernel
theorem dL_law_638 : decode cL_law 638 = .ok (.iadd, 1) := by decide +kernel
theorem dL_law_639 : decode cL_law 639 = .ok (.iaload, 1) := by decide +kernel
theorem dL_law_640 : decode cL_law 640 = .ok (.invokevirtual 74, 3) := by decide +kernel
theorem dL_law_643 : decode cL_law 643 = .ok (.aload_n 2, 1) := by decide +kernel
theorem dL_law_644 : decode cL_law 644 = .ok (.aload_n 0, 1) := by decide +kernel
theorem dL_law_645 : decode cL_law 645 = .ok (.iload_n 3, 1) := by decide +kernel
theorem dL_law_646 : decode cL_law 646 = .ok (.iconst 1, 1) := by decide +kernel
theorem dL_law_647 : decode cL_law 647 = .ok (.iadd, 1) := by decide +kernel
theorem dL_law_648 : decode cL_law 648 = .ok (.iaload, 1) := by decide +kernel
theorem dL_law_649 : decode cL_law 649 = .ok (.invokevirtual 77, 3) := by decide +kernel
theorem dL_law_652 : decode cL_law 652 = .ok (.if_icmp .eq 749, 3) := by decide +kernel
theorem dL_law_655 : decode cL_law 655 = .ok (.iconst 0, 1) := by decide +kernel
theorem dL_law_656 : decode cL_law 656 = .ok (.ireturn, 1) := by decide +kernel
theorem dL_law_657 : decode cL_law 657 = .ok (.aload_n 1, 1) := by decide +kernel
theorem dL_law_658 : decode cL_law 658 = .ok (.aload_n 0, 1) := by decide +kernel
theorem dL_law_659 : decode cL_law 659 = .ok (.iload_n 3, 1) := by decide +kernel
theorem dL_law_660 : decode cL_law 660 = .ok (.iconst 1, 1) := by decide +kernel
theorem dL_law_661 : decode cL_law 661 = .ok (.iadd, 1) := by decide +kernel
theorem dL_law_662 : decode cL_law 662 = .ok (.iaload, 1) := by decide +kernel
theorem dL_law_663 : decode cL_law 663 = .ok (.aload_n 0, 1) := by decide +kernel
theorem dL_law_664 : decode cL_law 664 = .ok (.iload_n 3, 1) := by decide +kernel
theorem dL_law_665 : decode cL_law 665 = .ok (.iconst 2, 1) := by decide +kernel
theorem dL_law_666 : decode cL_law 666 = .ok (.iadd, 1) := by decide +kernel
theorem dL_law_667 : decode cL_law 667 = .ok (.iaload, 1) := by decide +kernel
theorem dL_law_668 : decode cL_law 668 = .ok (.invokevirtual 78, 3) := by decide +kernel
theorem dL_law_671 : decode cL_law 671 = .ok (.aload_n 2, 1) := by decide +kernel
theorem dL_law_672 : decode cL_law 672 = .ok (.aload_n 0, 1) := by decide +kernel
theorem dL_law_673 : decode cL_law 673 = .ok (.iload_n 3, 1) := by decide +kernel
theorem dL_law_674 : decode cL_law 674 = .ok (.iconst 1, 1) := by decide +kernel
theorem dL_law_675 : decode cL_law 675 = .ok (.iadd, 1) := by decide +kernel
theorem dL_law_676 : decode cL_law 676 = .ok (.iaload, 1) := by decide +kernel
theorem dL_law_677 : decode cL_law 677 = .ok (.aload_n 0, 1) := by decide +kernel
theorem dL_law_678 : decode cL_law 678 = .ok (.iload_n 3, 1) := by decide +kernel
theorem dL_law_679 : decode cL_law 679 = .ok (.iconst 2, 1) := by decide +kernel
theorem dL_law_680 : decode cL_law 680 = .ok (.iadd, 1) := by decide +kernel
theorem dL_law_681 : decode cL_law 681 = .ok (.iaload, 1) := by decide +kernel
theorem dL_law_682 : decode cL_law 682 = .ok (.invokevirtual 81, 3) := by decide +kernel
theorem dL_law_685 : decode cL_law 685 = .ok (.if_icmp .eq 716, 3) := by decide +kernel
theorem dL_law_688 : decode cL_law 688 = .ok (.iconst 0, 1) := by decide +kernel
theorem dL_law_689 : decode cL_law 689 = .ok (.ireturn, 1) := by decide +kernel
theorem dL_law_690 : decode cL_law 690 = .ok (.aload_n 1, 1) := by decide +kernel
theorem dL_law_691 : decode cL_law 691 = .ok (.aload_n 0, 1) := by decide +kernel
theorem dL_law_692 : decode cL_law 692 = .ok (.iload_n 3, 1) := by decide +kernel
theorem dL_law_693 : decode cL_law 693 = .ok (.iconst 1, 1) := by decide +kernel
theorem dL_law_694 : decode cL_law 694 = .ok (.iadd, 1) := by decide +kernel
theorem dL_law_695 : decode cL_law 695 = .ok (.iaload, 1) := by decide +kernel
theorem dL_law_696 : decode cL_law 696 = .ok (.invokevirtual 82, 3) := by decide +kernel
theorem dL_law_699 : decode cL_law 699 = .ok (.aload_n 2, 1) := by decide +kernel
theorem dL_law_700 : decode cL_law 700 = .ok (.aload_n 0, 1) := by decide +kernel
theorem dL_law_701 : decode cL_law 701 = .ok (.iload_n 3, 1) := by decide +kernel
theorem dL_law_702 : decode cL_law 702 = .ok (.iconst 1, 1) := by decide +kernel
theorem dL_law_703 : decode cL_law 703 = .ok (.iadd, 1) := by decide +kernel
theorem dL_law_704 : decode cL_law 704 = .ok (.iaload, 1) := by decide +kernel
theorem dL_law_705 : decode cL_law 705 = .ok (.invokevirtual 85, 3) := by decide +kernel
theorem dL_law_708 : decode cL_law 708 = .ok (.if_icmp .eq 693, 3) := by decide +kernel
theorem dL_law_711 : decode cL_law 711 = .ok (.iconst 0, 1) := by decide +kernel
theorem dL_law_712 : decode cL_law 712 = .ok (.ireturn, 1) := by decide +kernel
theorem dL_law_713 : decode cL_law 713 = .ok (.aload_n 1, 1) := by decide +kernel
theorem dL_law_714 : decode cL_law 714 = .ok (.invokevirtual 86, 3) := by decide +kernel
theorem dL_law_717 : decode cL_law 717 = .ok (.aload_n 2, 1) := by decide +kernel
theorem dL_law_718 : decode cL_law 718 = .ok (.invokevirtual 89, 3) := by decide +kernel
theorem dL_law_721 : decode cL_law 721 = .ok (.if_icmp .eq 680, 3) := by decide +kernel
theorem dL_law_724 : decode cL_law 724 = .ok (.iconst 0, 1) := by decide +kernel
theorem dL_law_725 : decode cL_law 725 = .ok (.ireturn, 1) := by decide +kernel
theorem dL_law_726 : decode cL_law 726 = .ok (.aload_n 1, 1) := by decide +kernel
theorem dL_law_727 : decode cL_law 727 = .ok (.invokevirtual 90, 3) := by decide +kernel
theorem dL_law_730 : decode cL_law 730 = .ok (.aload_n 2, 1) := by decide +kernel
theorem dL_law_731 : decode cL_law 731 = .ok (.invokevirtual 93, 3) := by decide +kernel
theorem dL_law_734 : decode cL_law 734 = .ok (.if_icmp .eq 667, 3) := by decide +kernel
theorem dL_law_737 : decode cL_law 737 = .ok (.iconst 0, 1) := by decide +kernel
theorem dL_law_738 : decode cL_law 738 = .ok (.ireturn, 1) := by decide +kernel
theorem dL_law_739 : decode cL_law 739 = .ok (.aload_n 1, 1) := by decide +kernel
theorem dL_law_740 : decode cL_law 740 = .ok (.invokevirtual 94, 3) := by decide +kernel
theorem dL_law_743 : decode cL_law 743 = .ok (.aload_n 2, 1) := by decide +kernel
theorem dL_law_744 : decode cL_law 744 = .ok (.invokevirtual 97, 3) := by decide +kernel
theorem dL_law_747 : decode cL_law 747 = .ok (.if_icmp .eq 654, 3) := by decide +kernel
theorem dL_law_750 : decode cL_law 750 = .ok (.iconst 0, 1) := by decide +kernel
theorem dL_law_751 : decode cL_law 751 = .ok (.ireturn, 1) := by decide +kernel
theorem dL_law_752 : decode cL_law 752 = .ok (.aload_n 1, 1) := by decide +kernel
theorem dL_law_753 : decode cL_law 753 = .ok (.invokevirtual 98, 3) := by decide +kernel
theorem dL_law_756 : decode cL_law 756 = .ok (.aload_n 2, 1) := by decide +kernel
theorem dL_law_757 : decode cL_law 757 = .ok (.invokevirtual 101, 3) := by decide +kernel
theorem dL_law_760 : decode cL_law 760 = .ok (.if_icmp .eq 641, 3) := by decide +kernel
theorem dL_law_763 : decode cL_law 763 = .ok (.iconst 0, 1) := by decide +kernel
theorem dL_law_764 : decode cL_law 764 = .ok (.ireturn, 1) := by decide +kernel
theorem dL_law_765 : decode cL_law 765 = .ok (.aload_n 1, 1) := by decide +kernel
theorem dL_law_766 : decode cL_law 766 = .ok (.invokevirtual 102, 3) := by decide +kernel
theorem dL_law_769 : decode cL_law 769 = .ok (.aload_n 2, 1) := by decide +kernel
theorem dL_law_770 : decode cL_law 770 = .ok (.invokevirtual 105, 3) := by decide +kernel
theorem dL_law_773 : decode cL_law 773 = .ok (.if_icmp .eq 628, 3) := by decide +kernel
theorem dL_law_776 : decode cL_law 776 = .ok (.iconst 0, 1) := by decide +kernel
theorem dL_law_777 : decode cL_law 777 = .ok (.ireturn, 1) := by decide +kernel
theorem dL_law_778 : decode cL_law 778 = .ok (.aload_n 1, 1) := by decide +kernel
theorem dL_law_779 : decode cL_law 779 = .ok (.aload_n 0, 1) := by decide +kernel
theorem dL_law_780 : decode cL_law 780 = .ok (.iload_n 3, 1) := by decide +kernel
theorem dL_law_781 : decode cL_law 781 = .ok (.iconst 1, 1) := by decide +kernel
theorem dL_law_782 : decode cL_law 782 = .ok (.iadd, 1) := by decide +kernel
theorem dL_law_783 : decode cL_law 783 = .ok (.iaload, 1) := by decide +kernel
theorem dL_law_784 : decode cL_law 784 = .ok (.aload_n 0, 1) := by decide +kernel
theorem dL_law_785 : decode cL_law 785 = .ok (.iload_n 3, 1) := by decide +kernel
theorem dL_law_786 : decode cL_law 786 = .ok (.iconst 2, 1) := by decide +kernel
theorem dL_law_787 : decode cL_law 787 = .ok (.iadd, 1) := by decide +kernel
theorem dL_law_788 : decode cL_law 788 = .ok (.iaload, 1) := by decide +kernel
theorem dL_law_789 : decode cL_law 789 = .ok (.invokevirtual 106, 3) := by decide +kernel
theorem dL_law_792 : decode cL_law 792 = .ok (.aload_n 2, 1) := by decide +kernel
theorem dL_law_793 : decode cL_law 793 = .ok (.aload_n 0, 1) := by decide +kernel
theorem dL_law_794 : decode cL_law 794 = .ok (.iload_n 3, 1) := by decide +kernel
theorem dL_law_795 : decode cL_law 795 = .ok (.iconst 1, 1) := by decide +kernel
theorem dL_law_796 : decode cL_law 796 = .ok (.iadd, 1) := by decide +kernel
theorem dL_law_797 : decode cL_law 797 = .ok (.iaload, 1) := by decide +kernel
theorem dL_law_798 : decode cL_law 798 = .ok (.aload_n 0, 1) := by decide +kernel
theorem dL_law_799 : decode cL_law 799 = .ok (.iload_n 3, 1) := by decide +kernel
theorem dL_law_800 : decode cL_law 800 = .ok (.iconst 2, 1) := by decide +kernel
theorem dL_law_801 : decode cL_law 801 = .ok (.iadd, 1) := by decide +kernel
theorem dL_law_802 : decode cL_law 802 = .ok (.iaload, 1) := by decide +kernel
theorem dL_law_803 : decode cL_law 803 = .ok (.invokevirtual 109, 3) := by decide +kernel
theorem dL_law_806 : decode cL_law 806 = .ok (.if_icmp .eq 595, 3) := by decide +kernel
theorem dL_law_809 : decode cL_law 809 = .ok (.iconst 0, 1) := by decide +kernel
theorem dL_law_810 : decode cL_law 810 = .ok (.ireturn, 1) := by decide +kernel
theorem dL_law_811 : decode cL_law 811 = .ok (.aload_n 1, 1) := by decide +kernel
theorem dL_law_812 : decode cL_law 812 = .ok (.aload_n 0, 1) := by decide +kernel
theorem dL_law_813 : decode cL_law 813 = .ok (.iload_n 3, 1) := by decide +kernel
theorem dL_law_814 : decode cL_law 814 = .ok (.iconst 1, 1) := by decide +kernel
theorem dL_law_815 : decode cL_law 815 = .ok (.iadd, 1) := by decide +kernel
theorem dL_law_816 : decode cL_law 816 = .ok (.iaload, 1) := by decide +kernel
theorem dL_law_817 : decode cL_law 817 = .ok (.invokevirtual 110, 3) := by decide +kernel
theorem dL_law_820 : decode cL_law 820 = .ok (.aload_n 2, 1) := by decide +kernel
theorem dL_law_821 : decode cL_law 821 = .ok (.aload_n 0, 1) := by decide +kernel
theorem dL_law_822 : decode cL_law 822 = .ok (.iload_n 3, 1) := by decide +kernel
theorem dL_law_823 : decode cL_law 823 = .ok (.iconst 1, 1) := by decide +kernel
theorem dL_law_824 : decode cL_law 824 = .ok (.iadd, 1) := by decide +kernel
theorem dL_law_825 : decode cL_law 825 = .ok (.iaload, 1) := by decide +kernel
theorem dL_law_826 : decode cL_law 826 = .ok (.invokevirtual 113, 3) := by decide +kernel
theorem dL_law_829 : decode cL_law 829 = .ok (.if_icmp .eq 572, 3) := by decide +kernel
theorem dL_law_832 : decode cL_law 832 = .ok (.iconst 0, 1) := by decide +kernel
theorem dL_law_833 : decode cL_law 833 = .ok (.ireturn, 1) := by decide +kernel
theorem dL_law_834 : decode cL_law 834 = .ok (.aload_n 1, 1) := by decide +kernel
theorem dL_law_835 : decode cL_law 835 = .ok (.aload_n 0, 1) := by decide +kernel
theorem dL_law_836 : decode cL_law 836 = .ok (.iload_n 3, 1) := by decide +kernel
theorem dL_law_837 : decode cL_law 837 = .ok (.iconst 1, 1) := by decide +kernel
theorem dL_law_838 : decode cL_law 838 = .ok (.iadd, 1) := by decide +kernel
theorem dL_law_839 : decode cL_law 839 = .ok (.iaload, 1) := by decide +kernel
theorem dL_law_840 : decode cL_law 840 = .ok (.invokevirtual 114, 3) := by decide +kernel
theorem dL_law_843 : decode cL_law 843 = .ok (.aload_n 2, 1) := by decide +kernel
theorem dL_law_844 : decode cL_law 844 = .ok (.aload_n 0, 1) := by decide +kernel
theorem dL_law_845 : decode cL_law 845 = .ok (.iload_n 3, 1) := by decide +kernel
theorem dL_law_846 : decode cL_law 846 = .ok (.iconst 1, 1) := by decide +kernel
theorem dL_law_847 : decode cL_law 847 = .ok (.iadd, 1) := by decide +kernel
theorem dL_law_848 : decode cL_law 848 = .ok (.iaload, 1) := by decide +kernel
theorem dL_law_849 : decode cL_law 849 = .ok (.invokevirtual 117, 3) := by decide +kernel
theorem dL_law_852 : decode cL_law 852 = .ok (.if_icmp .eq 549, 3) := by decide +kernel
theorem dL_law_855 : decode cL_law 855 = .ok (.iconst 0, 1) := by decide +kernel
theorem dL_law_856 : decode cL_law 856 = .ok (.ireturn, 1) := by decide +kernel
theorem dL_law_857 : decode cL_law 857 = .ok (.aload_n 1, 1) := by decide +kernel
theorem dL_law_858 : decode cL_law 858 = .ok (.aload_n 0, 1) := by decide +kernel
theorem dL_law_859 : decode cL_law 859 = .ok (.iload_n 3, 1) := by decide +kernel
theorem dL_law_860 : decode cL_law 860 = .ok (.iconst 1, 1) := by decide +kernel
theorem dL_law_861 : decode cL_law 861 = .ok (.iadd, 1) := by decide +kernel
theorem dL_law_862 : decode cL_law 862 = .ok (.iaload, 1) := by decide +kernel
theorem dL_law_863 : decode cL_law 863 = .ok (.invokevirtual 118, 3) := by decide +kernel
theorem dL_law_866 : decode cL_law 866 = .ok (.aload_n 2, 1) := by decide +kernel
theorem dL_law_867 : decode cL_law 867 = .ok (.aload_n 0, 1) := by decide +kernel
theorem dL_law_868 : decode cL_law 868 = .ok (.iload_n 3, 1) := by decide +kernel
theorem dL_law_869 : decode cL_law 869 = .ok (.iconst 1, 1) := by decide +kernel
theorem dL_law_870 : decode cL_law 870 = .ok (.iadd, 1) := by decide +kernel
theorem dL_law_871 : decode cL_law 871 = .ok (.iaload, 1) := by decide +kernel
theorem dL_law_872 : decode cL_law 872 = .ok (.invokevirtual 121, 3) := by decide +kernel
theorem dL_law_875 : decode cL_law 875 = .ok (.if_icmp .eq 526, 3) := by decide +kernel
theorem dL_law_878 : decode cL_law 878 = .ok (.iconst 0, 1) := by decide +kernel
theorem dL_law_879 : decode cL_law 879 = .ok (.ireturn, 1) := by decide +kernel
theorem dL_law_880 : decode cL_law 880 = .ok (.aload_n 1, 1) := by decide +kernel
theorem dL_law_881 : decode cL_law 881 = .ok (.invokevirtual 122, 3) := by decide +kernel
theorem dL_law_884 : decode cL_law 884 = .ok (.aload_n 2, 1) := by decide +kernel
theorem dL_law_885 : decode cL_law 885 = .ok (.invokevirtual 125, 3) := by decide +kernel
theorem dL_law_888 : decode cL_law 888 = .ok (.if_icmp .eq 513, 3) := by decide +kernel
theorem dL_law_891 : decode cL_law 891 = .ok (.iconst 0, 1) := by decide +kernel
theorem dL_law_892 : decode cL_law 892 = .ok (.ireturn, 1) := by decide +kernel
theorem dL_law_893 : decode cL_law 893 = .ok (.aload_n 1, 1) := by decide +kernel
theorem dL_law_894 : decode cL_law 894 = .ok (.aload_n 0, 1) := by decide +kernel
theorem dL_law_895 : decode cL_law 895 = .ok (.iload_n 3, 1) := by decide +kernel
theorem dL_law_896 : decode cL_law 896 = .ok (.iconst 1, 1) := by decide +kernel
theorem dL_law_897 : decode cL_law 897 = .ok (.iadd, 1) := by decide +kernel
theorem dL_law_898 : decode cL_law 898 = .ok (.iaload, 1) := by decide +kernel
theorem dL_law_899 : decode cL_law 899 = .ok (.invokevirtual 126, 3) := by decide +kernel
theorem dL_law_902 : decode cL_law 902 = .ok (.aload_n 2, 1) := by decide +kernel
theorem dL_law_903 : decode cL_law 903 = .ok (.aload_n 0, 1) := by decide +kernel
theorem dL_law_904 : decode cL_law 904 = .ok (.iload_n 3, 1) := by decide +kernel
theorem dL_law_905 : decode cL_law 905 = .ok (.iconst 1, 1) := by decide +kernel
theorem dL_law_906 : decode cL_law 906 = .ok (.iadd, 1) := by decide +kernel
theorem dL_law_907 : decode cL_law 907 = .ok (.iaload, 1) := by decide +kernel
theorem dL_law_908 : decode cL_law 908 = .ok (.invokevirtual 129, 3) := by decide +kernel
theorem dL_law_911 : decode cL_law 911 = .ok (.if_icmp .eq 490, 3) := by decide +kernel
theorem dL_law_914 : decode cL_law 914 = .ok (.iconst 0, 1) := by decide +kernel
theorem dL_law_915 : decode cL_law 915 = .ok (.ireturn, 1) := by decide +kernel
theorem dL_law_916 : decode cL_law 916 = .ok (.aload_n 1, 1) := by decide +kernel
theorem dL_law_917 : decode cL_law 917 = .ok (.aload_n 0, 1) := by decide +kernel
theorem dL_law_918 : decode cL_law 918 = .ok (.iload_n 3, 1) := by decide +kernel
theorem dL_law_919 : decode cL_law 919 = .ok (.iconst 1, 1) := by decide +kernel
theorem dL_law_920 : decode cL_law 920 = .ok (.iadd, 1) := by decide +kernel
theorem dL_law_921 : decode cL_law 921 = .ok (.iaload, 1) := by decide +kernel
theorem dL_law_922 : decode cL_law 922 = .ok (.aload_n 0, 1) := by decide +kernel
theorem dL_law_923 : decode cL_law 923 = .ok (.iload_n 3, 1) := by decide +kernel
theorem dL_law_924 : decode cL_law 924 = .ok (.iconst 2, 1) := by decide +kernel
theorem dL_law_925 : decode cL_law 925 = .ok (.iadd, 1) := by decide +kernel
theorem dL_law_926 : decode cL_law 926 = .ok (.iaload, 1) := by decide +kernel
theorem dL_law_927 : decode cL_law 927 = .ok (.invokevirtual 130, 3) := by decide +kernel
theorem dL_law_930 : decode cL_law 930 = .ok (.aload_n 2, 1) := by decide +kernel
theorem dL_law_931 : decode cL_law 931 = .ok (.aload_n 0, 1) := by decide +kernel
theorem dL_law_932 : decode cL_law 932 = .ok (.iload_n 3, 1) := by decide +kernel
theorem dL_law_933 : decode cL_law 933 = .ok (.iconst 1, 1) := by decide +kernel
theorem dL_law_934 : decode cL_law 934 = .ok (.iadd, 1) := by decide +kernel
theorem dL_law_935 : decode cL_law 935 = .ok (.iaload, 1) := by decide +kernel
theorem dL_law_936 : decode cL_law 936 = .ok (.aload_n 0, 1) := by decide +kernel
theorem dL_law_937 : decode cL_law 937 = .ok (.iload_n 3, 1) := by decide +kernel
theorem dL_law_938 : decode cL_law 938 = .ok (.iconst 2, 1) := by decide +kernel
theorem dL_law_939 : decode cL_law 939 = .ok (.iadd, 1) := by decide +kernel
theorem dL_law_940 : decode cL_law 940 = .ok (.iaload, 1) := by decide +kernel
theorem dL_law_941 : decode cL_law 941 = .ok (.invokevirtual 134, 3) := by decide +kernel
theorem dL_law_944 : decode cL_law 944 = .ok (.lcmp, 1) := by decide +kernel
theorem dL_law_945 : decode cL_law 945 = .ok (.ifCond .eq 456, 3) := by decide +kernel
theorem dL_law_948 : decode cL_law 948 = .ok (.iconst 0, 1) := by decide +kernel
theorem dL_law_949 : decode cL_law 949 = .ok (.ireturn, 1) := by decide +kernel
theorem dL_law_950 : decode cL_law 950 = .ok (.aload_n 1, 1) := by decide +kernel
theorem dL_law_951 : decode cL_law 951 = .ok (.aload_n 0, 1) := by decide +kernel
theorem dL_law_952 : decode cL_law 952 = .ok (.iload_n 3, 1) := by decide +kernel
theorem dL_law_953 : decode cL_law 953 = .ok (.iconst 1, 1) := by decide +kernel
theorem dL_law_954 : decode cL_law 954 = .ok (.iadd, 1) := by decide +kernel
theorem dL_law_955 : decode cL_law 955 = .ok (.iaload, 1) := by decide +kernel
theorem dL_law_956 : decode cL_law 956 = .ok (.invokevirtual 135, 3) := by decide +kernel
theorem dL_law_959 : decode cL_law 959 = .ok (.aload_n 2, 1) := by decide +kernel
theorem dL_law_960 : decode cL_law 960 = .ok (.aload_n 0, 1) := by decide +kernel
theorem dL_law_961 : decode cL_law 961 = .ok (.iload_n 3, 1) := by decide +kernel
theorem dL_law_962 : decode cL_law 962 = .ok (.iconst 1, 1) := by decide +kernel
theorem dL_law_963 : decode cL_law 963 = .ok (.iadd, 1) := by decide +kernel
theorem dL_law_964 : decode cL_law 964 = .ok (.iaload, 1) := by decide +kernel
theorem dL_law_965 : decode cL_law 965 = .ok (.invokevirtual 138, 3) := by decide +kernel
theorem dL_law_968 : decode cL_law 968 = .ok (.if_icmp .eq 433, 3) := by decide +kernel
theorem dL_law_971 : decode cL_law 971 = .ok (.iconst 0, 1) := by decide +kernel
theorem dL_law_972 : decode cL_law 972 = .ok (.ireturn, 1) := by decide +kernel
theorem dL_law_973 : decode cL_law 973 = .ok (.aload_n 1, 1) := by decide +kernel
theorem dL_law_974 : decode cL_law 974 = .ok (.aload_n 0, 1) := by decide +kernel
theorem dL_law_975 : decode cL_law 975 = .ok (.iload_n 3, 1) := by decide +kernel
theorem dL_law_976 : decode cL_law 976 = .ok (.iconst 1, 1) := by decide +kernel
theorem dL_law_977 : decode cL_law 977 = .ok (.iadd, 1) := by decide +kernel
theorem dL_law_978 : decode cL_law 978 = .ok (.iaload, 1) := by decide +kernel
theorem dL_law_979 : decode cL_law 979 = .ok (.aload_n 0, 1) := by decide +kernel
theorem dL_law_980 : decode cL_law 980 = .ok (.iload_n 3, 1) := by decide +kernel
theorem dL_law_981 : decode cL_law 981 = .ok (.iconst 2, 1) := by decide +kernel
theorem dL_law_982 : decode cL_law 982 = .ok (.iadd, 1) := by decide +kernel
theorem dL_law_983 : decode cL_law 983 = .ok (.iaload, 1) := by decide +kernel
theorem dL_law_984 : decode cL_law 984 = .ok (.invokevirtual 139, 3) := by decide +kernel
theorem dL_law_987 : decode cL_law 987 = .ok (.aload_n 2, 1) := by decide +kernel
theorem dL_law_988 : decode cL_law 988 = .ok (.aload_n 0, 1) := by decide +kernel
theorem dL_law_989 : decode cL_law 989 = .ok (.iload_n 3, 1) := by decide +kernel
theorem dL_law_990 : decode cL_law 990 = .ok (.iconst 1, 1) := by decide +kernel
theorem dL_law_991 : decode cL_law 991 = .ok (.iadd, 1) := by decide +kernel
theorem dL_law_992 : decode cL_law 992 = .ok (.iaload, 1) := by decide +kernel
theorem dL_law_993 : decode cL_law 993 = .ok (.aload_n 0, 1) := by decide +kernel
theorem dL_law_994 : decode cL_law 994 = .ok (.iload_n 3, 1) := by decide +kernel
theorem dL_law_995 : decode cL_law 995 = .ok (.iconst 2, 1) := by decide +kernel
theorem dL_law_996 : decode cL_law 996 = .ok (.iadd, 1) := by decide +kernel
theorem dL_law_997 : decode cL_law 997 = .ok (.iaload, 1) := by decide +kernel
theorem dL_law_998 : decode cL_law 998 = .ok (.invokevirtual 142, 3) := by decide +kernel
theorem dL_law_1001 : decode cL_law 1001 = .ok (.if_icmp .eq 400, 3) := by decide +kernel
theorem dL_law_1004 : decode cL_law 1004 = .ok (.iconst 0, 1) := by decide +kernel
theorem dL_law_1005 : decode cL_law 1005 = .ok (.ireturn, 1) := by decide +kernel
theorem dL_law_1006 : decode cL_law 1006 = .ok (.aload_n 1, 1) := by decide +kernel
theorem dL_law_1007 : decode cL_law 1007 = .ok (.invokevirtual 143, 3) := by decide +kernel
theorem dL_law_1010 : decode cL_law 1010 = .ok (.aload_n 2, 1) := by decide +kernel
theorem dL_law_1011 : decode cL_law 1011 = .ok (.invokevirtual 146, 3) := by decide +kernel
theorem dL_law_1014 : decode cL_law 1014 = .ok (.if_icmp .eq 387, 3) := by decide +kernel
theorem dL_law_1017 : decode cL_law 1017 = .ok (.iconst 0, 1) := by decide +kernel
theorem dL_law_1018 : decode cL_law 1018 = .ok (.ireturn, 1) := by decide +kernel
theorem dL_law_1019 : decode cL_law 1019 = .ok (.aload_n 1, 1) := by decide +kernel
theorem dL_law_1020 : decode cL_law 1020 = .ok (.invokevirtual 147, 3) := by decide +kernel
theorem dL_law_1023 : decode cL_law 1023 = .ok (.aload_n 2, 1) := by decide +kernel
theorem dL_law_1024 : decode cL_law 1024 = .ok (.invokevirtual 150, 3) := by decide +kernel
theorem dL_law_1027 : decode cL_law 1027 = .ok (.if_icmp .eq 374, 3) := by decide +kernel
theorem dL_law_1030 : decode cL_law 1030 = .ok (.iconst 0, 1) := by decide +kernel
theorem dL_law_1031 : decode cL_law 1031 = .ok (.ireturn, 1) := by decide +kernel
theorem dL_law_1032 : decode cL_law 1032 = .ok (.aload_n 1, 1) := by decide +kernel
theorem dL_law_1033 : decode cL_law 1033 = .ok (.aload_n 0, 1) := by decide +kernel
theorem dL_law_1034 : decode cL_law 1034 = .ok (.iload_n 3, 1) := by decide +kernel
theorem dL_law_1035 : decode cL_law 1035 = .ok (.iconst 1, 1) := by decide +kernel
theorem dL_law_1036 : decode cL_law 1036 = .ok (.iadd, 1) := by decide +kernel
theorem dL_law_1037 : decode cL_law 1037 = .ok (.iaload, 1) := by decide +kernel
theorem dL_law_1038 : decode cL_law 1038 = .ok (.aload_n 0, 1) := by decide +kernel
theorem dL_law_1039 : decode cL_law 1039 = .ok (.iload_n 3, 1) := by decide +kernel
theorem dL_law_1040 : decode cL_law 1040 = .ok (.iconst 2, 1) := by decide +kernel
theorem dL_law_1041 : decode cL_law 1041 = .ok (.iadd, 1) := by decide +kernel
theorem dL_law_1042 : decode cL_law 1042 = .ok (.iaload, 1) := by decide +kernel
theorem dL_law_1043 : decode cL_law 1043 = .ok (.invokevirtual 151, 3) := by decide +kernel
theorem dL_law_1046 : decode cL_law 1046 = .ok (.aload_n 2, 1) := by decide +kernel
theorem dL_law_1047 : decode cL_law 1047 = .ok (.aload_n 0, 1) := by decide +kernel
theorem dL_law_1048 : decode cL_law 1048 = .ok (.iload_n 3, 1) := by decide +kernel
theorem dL_law_1049 : decode cL_law 1049 = .ok (.iconst 1, 1) := by decide +kernel
theorem dL_law_1050 : decode cL_law 1050 = .ok (.iadd, 1) := by decide +kernel
theorem dL_law_1051 : decode cL_law 1051 = .ok (.iaload, 1) := by decide +kernel
theorem dL_law_1052 : decode cL_law 1052 = .ok (.aload_n 0, 1) := by decide +kernel
theorem dL_law_1053 : decode cL_law 1053 = .ok (.iload_n 3, 1) := by decide +kernel
theorem dL_law_1054 : decode cL_law 1054 = .ok (.iconst 2, 1) := by decide +kernel
theorem dL_law_1055 : decode cL_law 1055 = .ok (.iadd, 1) := by decide +kernel
theorem dL_law_1056 : decode cL_law 1056 = .ok (.iaload, 1) := by decide +kernel
theorem dL_law_1057 : decode cL_law 1057 = .ok (.invokevirtual 154, 3) := by decide +kernel
theorem dL_law_1060 : decode cL_law 1060 = .ok (.if_icmp .eq 341, 3) := by decide +kernel
theorem dL_law_1063 : decode cL_law 1063 = .ok (.iconst 0, 1) := by decide +kernel
theorem dL_law_1064 : decode cL_law 1064 = .ok (.ireturn, 1) := by decide +kernel
theorem dL_law_1065 : decode cL_law 1065 = .ok (.aload_n 1, 1) := by decide +kernel
theorem dL_law_1066 : decode cL_law 1066 = .ok (.aload_n 0, 1) := by decide +kernel
theorem dL_law_1067 : decode cL_law 1067 = .ok (.iload_n 3, 1) := by decide +kernel
theorem dL_law_1068 : decode cL_law 1068 = .ok (.iconst 1, 1) := by decide +kernel
theorem dL_law_1069 : decode cL_law 1069 = .ok (.iadd, 1) := by decide +kernel
theorem dL_law_1070 : decode cL_law 1070 = .ok (.iaload, 1) := by decide +kernel
theorem dL_law_1071 : decode cL_law 1071 = .ok (.aload_n 0, 1) := by decide +kernel
theorem dL_law_1072 : decode cL_law 1072 = .ok (.iload_n 3, 1) := by decide +kernel
theorem dL_law_1073 : decode cL_law 1073 = .ok (.iconst 2, 1) := by decide +kernel
theorem dL_law_1074 : decode cL_law 1074 = .ok (.iadd, 1) := by decide +kernel
theorem dL_law_1075 : decode cL_law 1075 = .ok (.iaload, 1) := by decide +kernel
theorem dL_law_1076 : decode cL_law 1076 = .ok (.invokevirtual 155, 3) := by decide +kernel
theorem dL_law_1079 : decode cL_law 1079 = .ok (.aload_n 2, 1) := by decide +kernel
theorem dL_law_1080 : decode cL_law 1080 = .ok (.aload_n 0, 1) := by decide +kernel
theorem dL_law_1081 : decode cL_law 1081 = .ok (.iload_n 3, 1) := by decide +kernel
theorem dL_law_1082 : decode cL_law 1082 = .ok (.iconst 1, 1) := by decide +kernel
theorem dL_law_1083 : decode cL_law 1083 = .ok (.iadd, 1) := by decide +kernel
theorem dL_law_1084 : decode cL_law 1084 = .ok (.iaload, 1) := by decide +kernel
theorem dL_law_1085 : decode cL_law 1085 = .ok (.aload_n 0, 1) := by decide +kernel
theorem dL_law_1086 : decode cL_law 1086 = .ok (.iload_n 3, 1) := by decide +kernel
theorem dL_law_1087 : decode cL_law 1087 = .ok (.iconst 2, 1) := by decide +kernel
theorem dL_law_1088 : decode cL_law 1088 = .ok (.iadd, 1) := by decide +kernel
theorem dL_law_1089 : decode cL_law 1089 = .ok (.iaload, 1) := by decide +kernel
theorem dL_law_1090 : decode cL_law 1090 = .ok (.invokevirtual 158, 3) := by decide +kernel
theorem dL_law_1093 : decode cL_law 1093 = .ok (.if_icmp .eq 308, 3) := by decide +kernel
theorem dL_law_1096 : decode cL_law 1096 = .ok (.iconst 0, 1) := by decide +kernel
theorem dL_law_1097 : decode cL_law 1097 = .ok (.ireturn, 1) := by decide +kernel
theorem dL_law_1098 : decode cL_law 1098 = .ok (.aload_n 1, 1) := by decide +kernel
theorem dL_law_1099 : decode cL_law 1099 = .ok (.aload_n 0, 1) := by decide +kernel
theorem dL_law_1100 : decode cL_law 1100 = .ok (.iload_n 3, 1) := by decide +kernel
theorem dL_law_1101 : decode cL_law 1101 = .ok (.iconst 1, 1) := by decide +kernel
theorem dL_law_1102 : decode cL_law 1102 = .ok (.iadd, 1) := by decide +kernel
theorem dL_law_1103 : decode cL_law 1103 = .ok (.iaload, 1) := by decide +kernel
theorem dL_law_1104 : decode cL_law 1104 = .ok (.aload_n 0, 1) := by decide +kernel
theorem dL_law_1105 : decode cL_law 1105 = .ok (.iload_n 3, 1) := by decide +kernel
theorem dL_law_1106 : decode cL_law 1106 = .ok (.iconst 2, 1) := by decide +kernel
theorem dL_law_1107 : decode cL_law 1107 = .ok (.iadd, 1) := by decide +kernel
theorem dL_law_1108 : decode cL_law 1108 = .ok (.iaload, 1) := by decide +kernel
theorem dL_law_1109 : decode cL_law 1109 = .ok (.aload_n 0, 1) := by decide +kernel
theorem dL_law_1110 : decode cL_law 1110 = .ok (.iload_n 3, 1) := by decide +kernel
theorem dL_law_1111 : decode cL_law 1111 = .ok (.iconst 3, 1) := by decide +kernel
theorem dL_law_1112 : decode cL_law 1112 = .ok (.iadd, 1) := by decide +kernel
theorem dL_law_1113 : decode cL_law 1113 = .ok (.iaload, 1) := by decide +kernel
theorem dL_law_1114 : decode cL_law 1114 = .ok (.invokevirtual 159, 3) := by decide +kernel
theorem dL_law_1117 : decode cL_law 1117 = .ok (.aload_n 2, 1) := by decide +kernel
theorem dL_law_1118 : decode cL_law 1118 = .ok (.aload_n 0, 1) := by decide +kernel
theorem dL_law_1119 : decode cL_law 1119 = .ok (.iload_n 3, 1) := by decide +kernel
theorem dL_law_1120 : decode cL_law 1120 = .ok (.iconst 1, 1) := by decide +kernel
theorem dL_law_1121 : decode cL_law 1121 = .ok (.iadd, 1) := by decide +kernel
theorem dL_law_1122 : decode cL_law 1122 = .ok (.iaload, 1) := by decide +kernel
theorem dL_law_1123 : decode cL_law 1123 = .ok (.aload_n 0, 1) := by decide +kernel
theorem dL_law_1124 : decode cL_law 1124 = .ok (.iload_n 3, 1) := by decide +kernel
theorem dL_law_1125 : decode cL_law 1125 = .ok (.iconst 2, 1) := by decide +kernel
theorem dL_law_1126 : decode cL_law 1126 = .ok (.iadd, 1) := by decide +kernel
theorem dL_law_1127 : decode cL_law 1127 = .ok (.iaload, 1) := by decide +kernel
theorem dL_law_1128 : decode cL_law 1128 = .ok (.aload_n 0, 1) := by decide +kernel
theorem dL_law_1129 : decode cL_law 1129 = .ok (.iload_n 3, 1) := by decide +kernel
theorem dL_law_1130 : decode cL_law 1130 = .ok (.iconst 3, 1) := by decide +kernel
theorem dL_law_1131 : decode cL_law 1131 = .ok (.iadd, 1) := by decide +kernel
theorem dL_law_1132 : decode cL_law 1132 = .ok (.iaload, 1) := by decide +kernel
theorem dL_law_1133 : decode cL_law 1133 = .ok (.invokevirtual 162, 3) := by decide +kernel
theorem dL_law_1136 : decode cL_law 1136 = .ok (.if_icmp .eq 265, 3) := by decide +kernel
theorem dL_law_1139 : decode cL_law 1139 = .ok (.iconst 0, 1) := by decide +kernel
theorem dL_law_1140 : decode cL_law 1140 = .ok (.ireturn, 1) := by decide +kernel
theorem dL_law_1141 : decode cL_law 1141 = .ok (.aload_n 1, 1) := by decide +kernel
theorem dL_law_1142 : decode cL_law 1142 = .ok (.aload_n 0, 1) := by decide +kernel
theorem dL_law_1143 : decode cL_law 1143 = .ok (.iload_n 3, 1) := by decide +kernel
theorem dL_law_1144 : decode cL_law 1144 = .ok (.iconst 1, 1) := by decide +kernel
theorem dL_law_1145 : decode cL_law 1145 = .ok (.iadd, 1) := by decide +kernel
theorem dL_law_1146 : decode cL_law 1146 = .ok (.iaload, 1) := by decide +kernel
theorem dL_law_1147 : decode cL_law 1147 = .ok (.aload_n 0, 1) := by decide +kernel
theorem dL_law_1148 : decode cL_law 1148 = .ok (.iload_n 3, 1) := by decide +kernel
theorem dL_law_1149 : decode cL_law 1149 = .ok (.iconst 2, 1) := by decide +kernel
theorem dL_law_1150 : decode cL_law 1150 = .ok (.iadd, 1) := by decide +kernel
theorem dL_law_1151 : decode cL_law 1151 = .ok (.iaload, 1) := by decide +kernel
theorem dL_law_1152 : decode cL_law 1152 = .ok (.aload_n 0, 1) := by decide +kernel
theorem dL_law_1153 : decode cL_law 1153 = .ok (.iload_n 3, 1) := by decide +kernel
theorem dL_law_1154 : decode cL_law 1154 = .ok (.iconst 3, 1) := by decide +kernel
theorem dL_law_1155 : decode cL_law 1155 = .ok (.iadd, 1) := by decide +kernel
theorem dL_law_1156 : decode cL_law 1156 = .ok (.iaload, 1) := by decide +kernel
theorem dL_law_1157 : decode cL_law 1157 = .ok (.invokevirtual 163, 3) := by decide +kernel
theorem dL_law_1160 : decode cL_law 1160 = .ok (.aload_n 2, 1) := by decide +kernel
theorem dL_law_1161 : decode cL_law 1161 = .ok (.aload_n 0, 1) := by decide +kernel
theorem dL_law_1162 : decode cL_law 1162 = .ok (.iload_n 3, 1) := by decide +kernel
theorem dL_law_1163 : decode cL_law 1163 = .ok (.iconst 1, 1) := by decide +kernel
theorem dL_law_1164 : decode cL_law 1164 = .ok (.iadd, 1) := by decide +kernel
theorem dL_law_1165 : decode cL_law 1165 = .ok (.iaload, 1) := by decide +kernel
theorem dL_law_1166 : decode cL_law 1166 = .ok (.aload_n 0, 1) := by decide +kernel
theorem dL_law_1167 : decode cL_law 1167 = .ok (.iload_n 3, 1) := by decide +kernel
theorem dL_law_1168 : decode cL_law 1168 = .ok (.iconst 2, 1) := by decide +kernel
theorem dL_law_1169 : decode cL_law 1169 = .ok (.iadd, 1) := by decide +kernel
theorem dL_law_1170 : decode cL_law 1170 = .ok (.iaload, 1) := by decide +kernel
theorem dL_law_1171 : decode cL_law 1171 = .ok (.aload_n 0, 1) := by decide +kernel
theorem dL_law_1172 : decode cL_law 1172 = .ok (.iload_n 3, 1) := by decide +kernel
theorem dL_law_1173 : decode cL_law 1173 = .ok (.iconst 3, 1) := by decide +kernel
theorem dL_law_1174 : decode cL_law 1174 = .ok (.iadd, 1) := by decide +kernel
theorem dL_law_1175 : decode cL_law 1175 = .ok (.iaload, 1) := by decide +kernel
theorem dL_law_1176 : decode cL_law 1176 = .ok (.invokevirtual 166, 3) := by decide +kernel
theorem dL_law_1179 : decode cL_law 1179 = .ok (.if_icmp .eq 222, 3) := by decide +kernel
theorem dL_law_1182 : decode cL_law 1182 = .ok (.iconst 0, 1) := by decide +kernel
theorem dL_law_1183 : decode cL_law 1183 = .ok (.ireturn, 1) := by decide +kernel
theorem dL_law_1184 : decode cL_law 1184 = .ok (.aload_n 1, 1) := by decide +kernel
theorem dL_law_1185 : decode cL_law 1185 = .ok (.aload_n 0, 1) := by decide +kernel
theorem dL_law_1186 : decode cL_law 1186 = .ok (.iload_n 3, 1) := by decide +kernel
theorem dL_law_1187 : decode cL_law 1187 = .ok (.iconst 1, 1) := by decide +kernel
theorem dL_law_1188 : decode cL_law 1188 = .ok (.iadd, 1) := by decide +kernel
theorem dL_law_1189 : decode cL_law 1189 = .ok (.iaload, 1) := by decide +kernel
theorem dL_law_1190 : decode cL_law 1190 = .ok (.aload_n 0, 1) := by decide +kernel
theorem dL_law_1191 : decode cL_law 1191 = .ok (.iload_n 3, 1) := by decide +kernel
theorem dL_law_1192 : decode cL_law 1192 = .ok (.iconst 2, 1) := by decide +kernel
theorem dL_law_1193 : decode cL_law 1193 = .ok (.iadd, 1) := by decide +kernel
theorem dL_law_1194 : decode cL_law 1194 = .ok (.iaload, 1) := by decide +kernel
theorem dL_law_1195 : decode cL_law 1195 = .ok (.aload_n 0, 1) := by decide +kernel
theorem dL_law_1196 : decode cL_law 1196 = .ok (.iload_n 3, 1) := by decide +kernel
theorem dL_law_1197 : decode cL_law 1197 = .ok (.iconst 3, 1) := by decide +kernel
theorem dL_law_1198 : decode cL_law 1198 = .ok (.iadd, 1) := by decide +kernel
theorem dL_law_1199 : decode cL_law 1199 = .ok (.iaload, 1) := by decide +kernel
theorem dL_law_1200 : decode cL_law 1200 = .ok (.aload_n 0, 1) := by decide +kernel
theorem dL_law_1201 : decode cL_law 1201 = .ok (.iload_n 3, 1) := by decide +kernel
theorem dL_law_1202 : decode cL_law 1202 = .ok (.iconst 4, 1) := by decide +kernel
theorem dL_law_1203 : decode cL_law 1203 = .ok (.iadd, 1) := by decide +kernel
theorem dL_law_1204 : decode cL_law 1204 = .ok (.iaload, 1) := by decide +kernel
theorem dL_law_1205 : decode cL_law 1205 = .ok (.aload_n 0, 1) := by decide +kernel
theorem dL_law_1206 : decode cL_law 1206 = .ok (.iload_n 3, 1) := by decide +kernel
theorem dL_law_1207 : decode cL_law 1207 = .ok (.iconst 5, 1) := by decide +kernel
theorem dL_law_1208 : decode cL_law 1208 = .ok (.iadd, 1) := by decide +kernel
theorem dL_law_1209 : decode cL_law 1209 = .ok (.iaload, 1) := by decide +kernel
theorem dL_law_1210 : decode cL_law 1210 = .ok (.invokevirtual 167, 3) := by decide +kernel
theorem dL_law_1213 : decode cL_law 1213 = .ok (.aload_n 2, 1) := by decide +kernel
theorem dL_law_1214 : decode cL_law 1214 = .ok (.aload_n 0, 1) := by decide +kernel
theorem dL_law_1215 : decode cL_law 1215 = .ok (.iload_n 3, 1) := by decide +kernel
theorem dL_law_1216 : decode cL_law 1216 = .ok (.iconst 1, 1) := by decide +kernel
theorem dL_law_1217 : decode cL_law 1217 = .ok (.iadd, 1) := by decide +kernel
theorem dL_law_1218 : decode cL_law 1218 = .ok (.iaload, 1) := by decide +kernel
theorem dL_law_1219 : decode cL_law 1219 = .ok (.aload_n 0, 1) := by decide +kernel
theorem dL_law_1220 : decode cL_law 1220 = .ok (.iload_n 3, 1) := by decide +kernel
theorem dL_law_1221 : decode cL_law 1221 = .ok (.iconst 2, 1) := by decide +kernel
theorem dL_law_1222 : decode cL_law 1222 = .ok (.iadd, 1) := by decide +kernel
theorem dL_law_1223 : decode cL_law 1223 = .ok (.iaload, 1) := by decide +kernel
theorem dL_law_1224 : decode cL_law 1224 = .ok (.aload_n 0, 1) := by decide +kernel
theorem dL_law_1225 : decode cL_law 1225 = .ok (.iload_n 3, 1) := by decide +kernel
theorem dL_law_1226 : decode cL_law 1226 = .ok (.iconst 3, 1) := by decide +kernel
theorem dL_law_1227 : decode cL_law 1227 = .ok (.iadd, 1) := by decide +kernel
theorem dL_law_1228 : decode cL_law 1228 = .ok (.iaload, 1) := by decide +kernel
theorem dL_law_1229 : decode cL_law 1229 = .ok (.aload_n 0, 1) := by decide +kernel
theorem dL_law_1230 : decode cL_law 1230 = .ok (.iload_n 3, 1) := by decide +kernel
theorem dL_law_1231 : decode cL_law 1231 = .ok (.iconst 4, 1) := by decide +kernel
theorem dL_law_1232 : decode cL_law 1232 = .ok (.iadd, 1) := by decide +kernel
theorem dL_law_1233 : decode cL_law 1233 = .ok (.iaload, 1) := by decide +kernel
theorem dL_law_1234 : decode cL_law 1234 = .ok (.aload_n 0, 1) := by decide +kernel
theorem dL_law_1235 : decode cL_law 1235 = .ok (.iload_n 3, 1) := by decide +kernel
theorem dL_law_1236 : decode cL_law 1236 = .ok (.iconst 5, 1) := by decide +kernel
theorem dL_law_1237 : decode cL_law 1237 = .ok (.iadd, 1) := by decide +kernel
theorem dL_law_1238 : decode cL_law 1238 = .ok (.iaload, 1) := by decide +kernel
theorem dL_law_1239 : decode cL_law 1239 = .ok (.invokevirtual 170, 3) := by decide +kernel
theorem dL_law_1242 : decode cL_law 1242 = .ok (.if_icmp .eq 159, 3) := by decide +kernel
theorem dL_law_1245 : decode cL_law 1245 = .ok (.iconst 0, 1) := by decide +kernel
theorem dL_law_1246 : decode cL_law 1246 = .ok (.ireturn, 1) := by decide +kernel
theorem dL_law_1247 : decode cL_law 1247 = .ok (.aload_n 1, 1) := by decide +kernel
theorem dL_law_1248 : decode cL_law 1248 = .ok (.aload_n 0, 1) := by decide +kernel
theorem dL_law_1249 : decode cL_law 1249 = .ok (.iload_n 3, 1) := by decide +kernel
theorem dL_law_1250 : decode cL_law 1250 = .ok (.iconst 1, 1) := by decide +kernel
theorem dL_law_1251 : decode cL_law 1251 = .ok (.iadd, 1) := by decide +kernel
theorem dL_law_1252 : decode cL_law 1252 = .ok (.iaload, 1) := by decide +kernel
theorem dL_law_1253 : decode cL_law 1253 = .ok (.invokevirtual 171, 3) := by decide +kernel
theorem dL_law_1256 : decode cL_law 1256 = .ok (.aload_n 2, 1) := by decide +kernel
theorem dL_law_1257 : decode cL_law 1257 = .ok (.aload_n 0, 1) := by decide +kernel
theorem dL_law_1258 : decode cL_law 1258 = .ok (.iload_n 3, 1) := by decide +kernel
theorem dL_law_1259 : decode cL_law 1259 = .ok (.iconst 1, 1) := by decide +kernel
theorem dL_law_1260 : decode cL_law 1260 = .ok (.iadd, 1) := by decide +kernel
theorem dL_law_1261 : decode cL_law 1261 = .ok (.iaload, 1) := by decide +kernel
theorem dL_law_1262 : decode cL_law 1262 = .ok (.invokevirtual 174, 3) := by decide +kernel
theorem dL_law_1265 : decode cL_law 1265 = .ok (.if_icmp .eq 136, 3) := by decide +kernel
theorem dL_law_1268 : decode cL_law 1268 = .ok (.iconst 0, 1) := by decide +kernel
theorem dL_law_1269 : decode cL_law 1269 = .ok (.ireturn, 1) := by decide +kernel
theorem dL_law_1270 : decode cL_law 1270 = .ok (.aload_n 1, 1) := by decide +kernel
theorem dL_law_1271 : decode cL_law 1271 = .ok (.aload_n 0, 1) := by decide +kernel
theorem dL_law_1272 : decode cL_law 1272 = .ok (.iload_n 3, 1) := by decide +kernel
theorem dL_law_1273 : decode cL_law 1273 = .ok (.iconst 1, 1) := by decide +kernel
theorem dL_law_1274 : decode cL_law 1274 = .ok (.iadd, 1) := by decide +kernel
theorem dL_law_1275 : decode cL_law 1275 = .ok (.iaload, 1) := by decide +kernel
theorem dL_law_1276 : decode cL_law 1276 = .ok (.invokevirtual 175, 3) := by decide +kernel
theorem dL_law_1279 : decode cL_law 1279 = .ok (.aload_n 2, 1) := by decide +kernel
theorem dL_law_1280 : decode cL_law 1280 = .ok (.aload_n 0, 1) := by decide +kernel
theorem dL_law_1281 : decode cL_law 1281 = .ok (.iload_n 3, 1) := by decide +kernel
theorem dL_law_1282 : decode cL_law 1282 = .ok (.iconst 1, 1) := by decide +kernel
theorem dL_law_1283 : decode cL_law 1283 = .ok (.iadd, 1) := by decide +kernel
theorem dL_law_1284 : decode cL_law 1284 = .ok (.iaload, 1) := by decide +kernel
theorem dL_law_1285 : decode cL_law 1285 = .ok (.invokevirtual 178, 3) := by decide +kernel
theorem dL_law_1288 : decode cL_law 1288 = .ok (.if_icmp .eq 113, 3) := by decide +kernel
theorem dL_law_1291 : decode cL_law 1291 = .ok (.iconst 0, 1) := by decide +kernel
theorem dL_law_1292 : decode cL_law 1292 = .ok (.ireturn, 1) := by decide +kernel
theorem dL_law_1293 : decode cL_law 1293 = .ok (.aload_n 1, 1) := by decide +kernel
theorem dL_law_1294 : decode cL_law 1294 = .ok (.aload_n 0, 1) := by decide +kernel
theorem dL_law_1295 : decode cL_law 1295 = .ok (.iload_n 3, 1) := by decide +kernel
theorem dL_law_1296 : decode cL_law 1296 = .ok (.iconst 1, 1) := by decide +kernel
theorem dL_law_1297 : decode cL_law 1297 = .ok (.iadd, 1) := by decide +kernel
theorem dL_law_1298 : decode cL_law 1298 = .ok (.iaload, 1) := by decide +kernel
theorem dL_law_1299 : decode cL_law 1299 = .ok (.invokevirtual 179, 3) := by decide +kernel
theorem dL_law_1302 : decode cL_law 1302 = .ok (.aload_n 2, 1) := by decide +kernel
theorem dL_law_1303 : decode cL_law 1303 = .ok (.aload_n 0, 1) := by decide +kernel
theorem dL_law_1304 : decode cL_law 1304 = .ok (.iload_n 3, 1) := by decide +kernel
theorem dL_law_1305 : decode cL_law 1305 = .ok (.iconst 1, 1) := by decide +kernel
theorem dL_law_1306 : decode cL_law 1306 = .ok (.iadd, 1) := by decide +kernel
theorem dL_law_1307 : decode cL_law 1307 = .ok (.iaload, 1) := by decide +kernel
theorem dL_law_1308 : decode cL_law 1308 = .ok (.invokevirtual 182, 3) := by decide +kernel
theorem dL_law_1311 : decode cL_law 1311 = .ok (.if_icmp .eq 90, 3) := by decide +kernel
theorem dL_law_1314 : decode cL_law 1314 = .ok (.iconst 0, 1) := by decide +kernel
theorem dL_law_1315 : decode cL_law 1315 = .ok (.ireturn, 1) := by decide +kernel
theorem dL_law_1316 : decode cL_law 1316 = .ok (.aload_n 1, 1) := by decide +kernel
theorem dL_law_1317 : decode cL_law 1317 = .ok (.invokevirtual 183, 3) := by decide +kernel
theorem dL_law_1320 : decode cL_law 1320 = .ok (.aload_n 2, 1) := by decide +kernel
theorem dL_law_1321 : decode cL_law 1321 = .ok (.invokevirtual 186, 3) := by decide +kernel
theorem dL_law_1324 : decode cL_law 1324 = .ok (.if_icmp .eq 77, 3) := by decide +kernel
theorem dL_law_1327 : decode cL_law 1327 = .ok (.iconst 0, 1) := by decide +kernel
theorem dL_law_1328 : decode cL_law 1328 = .ok (.ireturn, 1) := by decide +kernel
theorem dL_law_1329 : decode cL_law 1329 = .ok (.aload_n 1, 1) := by decide +kernel
theorem dL_law_1330 : decode cL_law 1330 = .ok (.invokevirtual 187, 3) := by decide +kernel
theorem dL_law_1333 : decode cL_law 1333 = .ok (.aload_n 2, 1) := by decide +kernel
theorem dL_law_1334 : decode cL_law 1334 = .ok (.invokevirtual 190, 3) := by decide +kernel
theorem dL_law_1337 : decode cL_law 1337 = .ok (.if_icmp .eq 64, 3) := by decide +kernel
theorem dL_law_1340 : decode cL_law 1340 = .ok (.iconst 0, 1) := by decide +kernel
theorem dL_law_1341 : decode cL_law 1341 = .ok (.ireturn, 1) := by decide +kernel
theorem dL_law_1342 : decode cL_law 1342 = .ok (.aload_n 1, 1) := by decide +kernel
theorem dL_law_1343 : decode cL_law 1343 = .ok (.invokevirtual 191, 3) := by decide +kernel
theorem dL_law_1346 : decode cL_law 1346 = .ok (.aload_n 2, 1) := by decide +kernel
theorem dL_law_1347 : decode cL_law 1347 = .ok (.invokevirtual 194, 3) := by decide +kernel
theorem dL_law_1350 : decode cL_law 1350 = .ok (.if_icmp .eq 51, 3) := by decide +kernel
theorem dL_law_1353 : decode cL_law 1353 = .ok (.iconst 0, 1) := by decide +kernel
theorem dL_law_1354 : decode cL_law 1354 = .ok (.ireturn, 1) := by decide +kernel
theorem dL_law_1355 : decode cL_law 1355 = .ok (.aload_n 1, 1) := by decide +kernel
theorem dL_law_1356 : decode cL_law 1356 = .ok (.aload_n 0, 1) := by decide +kernel
theorem dL_law_1357 : decode cL_law 1357 = .ok (.iload_n 3, 1) := by decide +kernel
theorem dL_law_1358 : decode cL_law 1358 = .ok (.iconst 1, 1) := by decide +kernel
theorem dL_law_1359 : decode cL_law 1359 = .ok (.iadd, 1) := by decide +kernel
theorem dL_law_1360 : decode cL_law 1360 = .ok (.iaload, 1) := by decide +kernel
theorem dL_law_1361 : decode cL_law 1361 = .ok (.invokevirtual 195, 3) := by decide +kernel
theorem dL_law_1364 : decode cL_law 1364 = .ok (.aload_n 2, 1) := by decide +kernel
theorem dL_law_1365 : decode cL_law 1365 = .ok (.aload_n 0, 1) := by decide +kernel
theorem dL_law_1366 : decode cL_law 1366 = .ok (.iload_n 3, 1) := by decide +kernel
theorem dL_law_1367 : decode cL_law 1367 = .ok (.iconst 1, 1) := by decide +kernel
theorem dL_law_1368 : decode cL_law 1368 = .ok (.iadd, 1) := by decide +kernel
theorem dL_law_1369 : decode cL_law 1369 = .ok (.iaload, 1) := by decide +kernel
theorem dL_law_1370 : decode cL_law 1370 = .ok (.invokevirtual 198, 3) := by decide +kernel
theorem dL_law_1373 : decode cL_law 1373 = .ok (.if_icmp .eq 28, 3) := by decide +kernel
theorem dL_law_1376 : decode cL_law 1376 = .ok (.iconst 0, 1) := by decide +kernel
theorem dL_law_1377 : decode cL_law 1377 = .ok (.ireturn, 1) := by decide +kernel
theorem dL_law_1378 : decode cL_law 1378 = .ok (.aload_n 1, 1) := by decide +kernel
theorem dL_law_1379 : decode cL_law 1379 = .ok (.aload_n 0, 1) := by decide +kernel
theorem dL_law_1380 : decode cL_law 1380 = .ok (.iload_n 3, 1) := by decide +kernel
theorem dL_law_1381 : decode cL_law 1381 = .ok (.iconst 1, 1) := by decide +kernel
theorem dL_law_1382 : decode cL_law 1382 = .ok (.iadd, 1) := by decide +kernel
theorem dL_law_1383 : decode cL_law 1383 = .ok (.iaload, 1) := by decide +kernel
theorem dL_law_1384 : decode cL_law 1384 = .ok (.invokevirtual 199, 3) := by decide +kernel
theorem dL_law_1387 : decode cL_law 1387 = .ok (.aload_n 2, 1) := by decide +kernel
theorem dL_law_1388 : decode cL_law 1388 = .ok (.aload_n 0, 1) := by decide +kernel
theorem dL_law_1389 : decode cL_law 1389 = .ok (.iload_n 3, 1) := by decide +kernel
theorem dL_law_1390 : decode cL_law 1390 = .ok (.iconst 1, 1) := by decide +kernel
theorem dL_law_1391 : decode cL_law 1391 = .ok (.iadd, 1) := by decide +kernel
theorem dL_law_1392 : decode cL_law 1392 = .ok (.iaload, 1) := by decide +kernel
theorem dL_law_1393 : decode cL_law 1393 = .ok (.invokevirtual 202, 3) := by decide +kernel
theorem dL_law_1396 : decode cL_law 1396 = .ok (.if_icmp .eq 5, 3) := by decide +kernel
theorem dL_law_1399 : decode cL_law 1399 = .ok (.iconst 0, 1) := by decide +kernel
theorem dL_law_1400 : decode cL_law 1400 = .ok (.ireturn, 1) := by decide +kernel
theorem dL_law_1401 : decode cL_law 1401 = .ok (.iinc 3 6, 3) := by decide +kernel
theorem dL_law_1404 : decode cL_law 1404 = .ok (.goto (-1386), 3) := by decide +kernel
theorem dL_law_1407 : decode cL_law 1407 = .ok (.iconst 1, 1) := by decide +kernel
theorem dL_law_1408 : decode cL_law 1408 = .ok (.ireturn, 1) := by decide +kernel
theorem dJ0_length_8abf5_0 : decode cJ0_length_8abf5 0 = .ok (.aload_n 0, 1) := by decide +kernel
theorem dJ0_length_8abf5_1 : decode cJ0_length_8abf5 1 = .ok (.getfield 9, 3) := by decide +kernel
theorem dJ0_length_8abf5_4 : decode cJ0_length_8abf5 4 = .ok (.arraylength, 1) := by decide +kernel
theorem dJ0_length_8abf5_5 : decode cJ0_length_8abf5 5 = .ok (.aload_n 0, 1) := by decide +kernel
theorem dJ0_length_8abf5_6 : decode cJ0_length_8abf5 6 = .ok (.invokevirtual 335, 3) := by decide +kernel
theorem dJ0_length_8abf5_9 : decode cJ0_length_8abf5 9 = .ok (.ishr, 1) := by decide +kernel
theorem dJ0_length_8abf5_10 : decode cJ0_length_8abf5 10 = .ok (.ireturn, 1) := by decide +kernel
theorem dJ0_charAt_5068e_0 : decode cJ0_charAt_5068e 0 = .ok (.aload_n 0, 1) := by decide +kernel
theorem dJ0_charAt_5068e_1 : decode cJ0_charAt_5068e 1 = .ok (.invokevirtual 492, 3) := by decide +kernel
theorem dJ0_charAt_5068e_4 : decode cJ0_charAt_5068e 4 = .ok (.ifCond .eq 12, 3) := by decide +kernel
theorem dJ0_charAt_5068e_7 : decode cJ0_charAt_5068e 7 = .ok (.aload_n 0, 1) := by decide +kernel
theorem dJ0_charAt_5068e_8 : decode cJ0_charAt_5068e 8 = .ok (.getfield 9, 3) := by decide +kernel
theorem dJ0_charAt_5068e_11 : decode cJ0_charAt_5068e 11 = .ok (.iload_n 1, 1) := by decide +kernel
theorem dJ0_charAt_5068e_12 : decode cJ0_charAt_5068e 12 = .ok (.invokestatic 495, 3) := by decide +kernel
theorem dJ0_charAt_5068e_15 : decode cJ0_charAt_5068e 15 = .ok (.ireturn, 1) := by decide +kernel
theorem dJ0_charAt_5068e_16 : decode cJ0_charAt_5068e 16 = .ok (.aload_n 0, 1) := by decide +kernel
theorem dJ0_charAt_5068e_17 : decode cJ0_charAt_5068e 17 = .ok (.getfield 9, 3) := by decide +kernel
theorem dJ0_charAt_5068e_20 : decode cJ0_charAt_5068e 20 = .ok (.iload_n 1, 1) := by decide +kernel
theorem dJ0_charAt_5068e_21 : decode cJ0_charAt_5068e 21 = .ok (.invokestatic 498, 3) := by decide +kernel
theorem dJ0_charAt_5068e_24 : decode cJ0_charAt_5068e 24 = .ok (.ireturn, 1) := by decide +kernel
theorem dJ0_coder_7d493_0 : decode cJ0_coder_7d493 0 = .ok (.getstatic 38, 3) := by decide +kernel
theorem dJ0_coder_7d493_3 : decode cJ0_coder_7d493 3 = .ok (.ifCond .eq 10, 3) := by decide +kernel
theorem dJ0_coder_7d493_6 : decode cJ0_coder_7d493 6 = .ok (.aload_n 0, 1) := by decide +kernel
theorem dJ0_coder_7d493_7 : decode cJ0_coder_7d493 7 = .ok (.getfield 15, 3) := by decide +kernel
theorem dJ0_coder_7d493_10 : decode cJ0_coder_7d493 10 = .ok (.goto 4, 3) := by decide +kernel
theorem dJ0_coder_7d493_13 : decode cJ0_coder_7d493 13 = .ok (.iconst 1, 1) := by decide +kernel
theorem dJ0_coder_7d493_14 : decode cJ0_coder_7d493 14 = .ok (.ireturn, 1) := by decide +kernel
theorem dJ0_isLatin1_aae02_0 : decode cJ0_isLatin1_aae02 0 = .ok (.getstatic 38, 3) := by decide +kernel
theorem dJ0_isLatin1_aae02_3 : decode cJ0_isLatin1_aae02 3 = .ok (.ifCond .eq 14, 3) := by decide +kernel
theorem dJ0_isLatin1_aae02_6 : decode cJ0_isLatin1_aae02 6 = .ok (.aload_n 0, 1) := by decide +kernel
theorem dJ0_isLatin1_aae02_7 : decode cJ0_isLatin1_aae02 7 = .ok (.getfield 15, 3) := by decide +kernel
theorem dJ0_isLatin1_aae02_10 : decode cJ0_isLatin1_aae02 10 = .ok (.ifCond .ne 7, 3) := by decide +kernel
theorem dJ0_isLatin1_aae02_13 : decode cJ0_isLatin1_aae02 13 = .ok (.iconst 1, 1) := by decide +kernel
theorem dJ0_isLatin1_aae02_14 : decode cJ0_isLatin1_aae02 14 = .ok (.goto 4, 3) := by decide +kernel
theorem dJ0_isLatin1_aae02_17 : decode cJ0_isLatin1_aae02 17 = .ok (.iconst 0, 1) := by decide +kernel
theorem dJ0_isLatin1_aae02_18 : decode cJ0_isLatin1_aae02 18 = .ok (.ireturn, 1) := by decide +kernel
theorem dJ0_checkIndex_df160_0 : decode cJ0_checkIndex_df160 0 = .ok (.iload_n 0, 1) := by decide +kernel
theorem dJ0_checkIndex_df160_1 : decode cJ0_checkIndex_df160 1 = .ok (.iload_n 1, 1) := by decide +kernel
theorem dJ0_checkIndex_df160_2 : decode cJ0_checkIndex_df160 2 = .ok (.getstatic 1053, 3) := by decide +kernel
theorem dJ0_checkIndex_df160_5 : decode cJ0_checkIndex_df160 5 = .ok (.invokestatic 1059, 3) := by decide +kernel
theorem dJ0_checkIndex_df160_8 : decode cJ0_checkIndex_df160 8 = .ok (.pop, 1) := by decide +kernel
theorem dJ0_checkIndex_df160_9 : decode cJ0_checkIndex_df160 9 = .ok (.return_, 1) := by decide +kernel
theorem dJ1_charAt_3b067_0 : decode cJ1_charAt_3b067 0 = .ok (.iload_n 1, 1) := by decide +kernel
theorem dJ1_charAt_3b067_1 : decode cJ1_charAt_3b067 1 = .ok (.aload_n 0, 1) := by decide +kernel
theorem dJ1_charAt_3b067_2 : decode cJ1_charAt_3b067 2 = .ok (.arraylength, 1) := by decide +kernel
theorem dJ1_charAt_3b067_3 : decode cJ1_charAt_3b067 3 = .ok (.invokestatic 9, 3) := by decide +kernel
theorem dJ1_charAt_3b067_6 : decode cJ1_charAt_3b067 6 = .ok (.aload_n 0, 1) := by decide +kernel
theorem dJ1_charAt_3b067_7 : decode cJ1_charAt_3b067 7 = .ok (.iload_n 1, 1) := by decide +kernel
theorem dJ1_charAt_3b067_8 : decode cJ1_charAt_3b067 8 = .ok (.baload, 1) := by decide +kernel
theorem dJ1_charAt_3b067_9 : decode cJ1_charAt_3b067 9 = .ok (.sipush 255, 3) := by decide +kernel
theorem dJ1_charAt_3b067_12 : decode cJ1_charAt_3b067 12 = .ok (.iand, 1) := by decide +kernel
theorem dJ1_charAt_3b067_13 : decode cJ1_charAt_3b067 13 = .ok (.i2c, 1) := by decide +kernel
theorem dJ1_charAt_3b067_14 : decode cJ1_charAt_3b067 14 = .ok (.ireturn, 1) := by decide +kernel
theorem dJ2_getChar_3b067_0 : decode cJ2_getChar_3b067 0 = .ok (.getstatic 44, 3) := by decide +kernel
theorem dJ2_getChar_3b067_3 : decode cJ2_getChar_3b067 3 = .ok (.ifCond .ne 25, 3) := by decide +kernel
theorem dJ2_getChar_3b067_6 : decode cJ2_getChar_3b067 6 = .ok (.iload_n 1, 1) := by decide +kernel
theorem dJ2_getChar_3b067_7 : decode cJ2_getChar_3b067 7 = .ok (.ifCond .lt 11, 3) := by decide +kernel
theorem dJ2_getChar_3b067_10 : decode cJ2_getChar_3b067 10 = .ok (.iload_n 1, 1) := by decide +kernel
theorem dJ2_getChar_3b067_11 : decode cJ2_getChar_3b067 11 = .ok (.aload_n 0, 1) := by decide +kernel
theorem dJ2_getChar_3b067_12 : decode cJ2_getChar_3b067 12 = .ok (.invokestatic 48, 3) := by decide +kernel
theorem dJ2_getChar_3b067_15 : decode cJ2_getChar_3b067 15 = .ok (.if_icmp .lt 13, 3) := by decide +kernel
theorem dJ2_getChar_3b067_18 : decode cJ2_getChar_3b067 18 = .ok (.new 52, 3) := by decide +kernel
theorem dJ2_getChar_3b067_21 : decode cJ2_getChar_3b067 21 = .ok (.dup, 1) := by decide +kernel
theorem dJ2_getChar_3b067_22 : decode cJ2_getChar_3b067 22 = .ok (.ldc 54, 2) := by decide +kernel
theorem dJ2_getChar_3b067_24 : decode cJ2_getChar_3b067 24 = .ok (.invokespecial 56, 3) := by decide +kernel
theorem dJ2_getChar_3b067_27 : decode cJ2_getChar_3b067 27 = .ok (.athrow, 1) := by decide +kernel
theorem dJ2_getChar_3b067_28 : decode cJ2_getChar_3b067 28 = .ok (.iload_n 1, 1) := by decide +kernel
theorem dJ2_getChar_3b067_29 : decode cJ2_getChar_3b067 29 = .ok (.iconst 1, 1) := by decide +kernel
theorem dJ2_getChar_3b067_30 : decode cJ2_getChar_3b067 30 = .ok (.ishl, 1) := by decide +kernel
theorem dJ2_getChar_3b067_31 : decode cJ2_getChar_3b067 31 = .ok (.istore_n 1, 1) := by decide +kernel
theorem dJ2_getChar_3b067_32 : decode cJ2_getChar_3b067 32 = .ok (.aload_n 0, 1) := by decide +kernel
theorem dJ2_getChar_3b067_33 : decode cJ2_getChar_3b067 33 = .ok (.iload_n 1, 1) := by decide +kernel
theorem dJ2_getChar_3b067_34 : decode cJ2_getChar_3b067 34 = .ok (.iinc 1 1, 3) := by decide +kernel
theorem dJ2_getChar_3b067_37 : decode cJ2_getChar_3b067 37 = .ok (.baload, 1) := by decide +kernel
theorem dJ2_getChar_3b067_38 : decode cJ2_getChar_3b067 38 = .ok (.sipush 255, 3) := by decide +kernel
theorem dJ2_getChar_3b067_41 : decode cJ2_getChar_3b067 41 = .ok (.iand, 1) := by decide +kernel
theorem dJ2_getChar_3b067_42 : decode cJ2_getChar_3b067 42 = .ok (.getstatic 59, 3) := by decide +kernel
theorem dJ2_getChar_3b067_45 : decode cJ2_getChar_3b067 45 = .ok (.ishl, 1) := by decide +kernel
theorem dJ2_getChar_3b067_46 : decode cJ2_getChar_3b067 46 = .ok (.aload_n 0, 1) := by decide +kernel
theorem dJ2_getChar_3b067_47 : decode cJ2_getChar_3b067 47 = .ok (.iload_n 1, 1) := by decide +kernel
theorem dJ2_getChar_3b067_48 : decode cJ2_getChar_3b067 48 = .ok (.baload, 1) := by decide +kernel
theorem dJ2_getChar_3b067_49 : decode cJ2_getChar_3b067 49 = .ok (.sipush 255, 3) := by decide +kernel
theorem dJ2_getChar_3b067_52 : decode cJ2_getChar_3b067 52 = .ok (.iand, 1) := by decide +kernel
theorem dJ2_getChar_3b067_53 : decode cJ2_getChar_3b067 53 = .ok (.getstatic 63, 3) := by decide +kernel
theorem dJ2_getChar_3b067_56 : decode cJ2_getChar_3b067 56 = .ok (.ishl, 1) := by decide +kernel
theorem dJ2_getChar_3b067_57 : decode cJ2_getChar_3b067 57 = .ok (.ior, 1) := by decide +kernel
theorem dJ2_getChar_3b067_58 : decode cJ2_getChar_3b067 58 = .ok (.i2c, 1) := by decide +kernel
theorem dJ2_getChar_3b067_59 : decode cJ2_getChar_3b067 59 = .ok (.ireturn, 1) := by decide +kernel
theorem dJ2_length_9d52b_0 : decode cJ2_length_9d52b 0 = .ok (.aload_n 0, 1) := by decide +kernel
theorem dJ2_length_9d52b_1 : decode cJ2_length_9d52b 1 = .ok (.arraylength, 1) := by decide +kernel
theorem dJ2_length_9d52b_2 : decode cJ2_length_9d52b 2 = .ok (.iconst 1, 1) := by decide +kernel
theorem dJ2_length_9d52b_3 : decode cJ2_length_9d52b 3 = .ok (.ishr, 1) := by decide +kernel
theorem dJ2_length_9d52b_4 : decode cJ2_length_9d52b 4 = .ok (.ireturn, 1) := by decide +kernel
theorem dJ2_charAt_3b067_0 : decode cJ2_charAt_3b067 0 = .ok (.iload_n 1, 1) := by decide +kernel
theorem dJ2_charAt_3b067_1 : decode cJ2_charAt_3b067 1 = .ok (.aload_n 0, 1) := by decide +kernel
theorem dJ2_charAt_3b067_2 : decode cJ2_charAt_3b067 2 = .ok (.invokestatic 67, 3) := by decide +kernel
theorem dJ2_charAt_3b067_5 : decode cJ2_charAt_3b067 5 = .ok (.aload_n 0, 1) := by decide +kernel
theorem dJ2_charAt_3b067_6 : decode cJ2_charAt_3b067 6 = .ok (.iload_n 1, 1) := by decide +kernel
theorem dJ2_charAt_3b067_7 : decode cJ2_charAt_3b067 7 = .ok (.invokestatic 71, 3) := by decide +kernel
theorem dJ2_charAt_3b067_10 : decode cJ2_charAt_3b067 10 = .ok (.ireturn, 1) := by decide +kernel
theorem dJ2_checkIndex_2214a_0 : decode cJ2_checkIndex_2214a 0 = .ok (.iload_n 0, 1) := by decide +kernel
theorem dJ2_checkIndex_2214a_1 : decode cJ2_checkIndex_2214a 1 = .ok (.aload_n 1, 1) := by decide +kernel
theorem dJ2_checkIndex_2214a_2 : decode cJ2_checkIndex_2214a 2 = .ok (.invokestatic 48, 3) := by decide +kernel
theorem dJ2_checkIndex_2214a_5 : decode cJ2_checkIndex_2214a 5 = .ok (.invokestatic 414, 3) := by decide +kernel
theorem dJ2_checkIndex_2214a_8 : decode cJ2_checkIndex_2214a 8 = .ok (.return_, 1) := by decide +kernel
theorem dJ3_checkIndex_8e157_0 : decode cJ3_checkIndex_8e157 0 = .ok (.iload_n 0, 1) := by decide +kernel
theorem dJ3_checkIndex_8e157_1 : decode cJ3_checkIndex_8e157 1 = .ok (.ifCond .lt 8, 3) := by decide +kernel
theorem dJ3_checkIndex_8e157_4 : decode cJ3_checkIndex_8e157 4 = .ok (.iload_n 0, 1) := by decide +kernel
theorem dJ3_checkIndex_8e157_5 : decode cJ3_checkIndex_8e157 5 = .ok (.iload_n 1, 1) := by decide +kernel
theorem dJ3_checkIndex_8e157_6 : decode cJ3_checkIndex_8e157 6 = .ok (.if_icmp .lt 10, 3) := by decide +kernel
theorem dJ3_checkIndex_8e157_9 : decode cJ3_checkIndex_8e157 9 = .ok (.aload_n 2, 1) := by decide +kernel
theorem dJ3_checkIndex_8e157_10 : decode cJ3_checkIndex_8e157 10 = .ok (.iload_n 0, 1) := by decide +kernel
theorem dJ3_checkIndex_8e157_11 : decode cJ3_checkIndex_8e157 11 = .ok (.iload_n 1, 1) := by decide +kernel
theorem dJ3_checkIndex_8e157_12 : decode cJ3_checkIndex_8e157 12 = .ok (.invokestatic 95, 3) := by decide +kernel
theorem dJ3_checkIndex_8e157_15 : decode cJ3_checkIndex_8e157 15 = .ok (.athrow, 1) := by decide +kernel
theorem dJ3_checkIndex_8e157_16 : decode cJ3_checkIndex_8e157 16 = .ok (.iload_n 0, 1) := by decide +kernel
theorem dJ3_checkIndex_8e157_17 : decode cJ3_checkIndex_8e157 17 = .ok (.ireturn, 1) := by decide +kernel
theorem dJ6_bitCount_0f7a4_0 : decode cJ6_bitCount_0f7a4 0 = .ok (.iload_n 0, 1) := by decide +kernel
theorem dJ6_bitCount_0f7a4_1 : decode cJ6_bitCount_0f7a4 1 = .ok (.iload_n 0, 1) := by decide +kernel
theorem dJ6_bitCount_0f7a4_2 : decode cJ6_bitCount_0f7a4 2 = .ok (.iconst 1, 1) := by decide +kernel
theorem dJ6_bitCount_0f7a4_3 : decode cJ6_bitCount_0f7a4 3 = .ok (.iushr, 1) := by decide +kernel
theorem dJ6_bitCount_0f7a4_4 : decode cJ6_bitCount_0f7a4 4 = .ok (.ldc_w 265, 3) := by decide +kernel
theorem dJ6_bitCount_0f7a4_7 : decode cJ6_bitCount_0f7a4 7 = .ok (.iand, 1) := by decide +kernel
theorem dJ6_bitCount_0f7a4_8 : decode cJ6_bitCount_0f7a4 8 = .ok (.isub, 1) := by decide +kernel
theorem dJ6_bitCount_0f7a4_9 : decode cJ6_bitCount_0f7a4 9 = .ok (.istore_n 0, 1) := by decide +kernel
theorem dJ6_bitCount_0f7a4_10 : decode cJ6_bitCount_0f7a4 10 = .ok (.iload_n 0, 1) := by decide +kernel
theorem dJ6_bitCount_0f7a4_11 : decode cJ6_bitCount_0f7a4 11 = .ok (.ldc_w 266, 3) := by decide +kernel
theorem dJ6_bitCount_0f7a4_14 : decode cJ6_bitCount_0f7a4 14 = .ok (.iand, 1) := by decide +kernel
theorem dJ6_bitCount_0f7a4_15 : decode cJ6_bitCount_0f7a4 15 = .ok (.iload_n 0, 1) := by decide +kernel
theorem dJ6_bitCount_0f7a4_16 : decode cJ6_bitCount_0f7a4 16 = .ok (.iconst 2, 1) := by decide +kernel
theorem dJ6_bitCount_0f7a4_17 : decode cJ6_bitCount_0f7a4 17 = .ok (.iushr, 1) := by decide +kernel
theorem dJ6_bitCount_0f7a4_18 : decode cJ6_bitCount_0f7a4 18 = .ok (.ldc_w 266, 3) := by decide +kernel
theorem dJ6_bitCount_0f7a4_21 : decode cJ6_bitCount_0f7a4 21 = .ok (.iand, 1) := by decide +kernel
theorem dJ6_bitCount_0f7a4_22 : decode cJ6_bitCount_0f7a4 22 = .ok (.iadd, 1) := by decide +kernel
theorem dJ6_bitCount_0f7a4_23 : decode cJ6_bitCount_0f7a4 23 = .ok (.istore_n 0, 1) := by decide +kernel
theorem dJ6_bitCount_0f7a4_24 : decode cJ6_bitCount_0f7a4 24 = .ok (.iload_n 0, 1) := by decide +kernel
theorem dJ6_bitCount_0f7a4_25 : decode cJ6_bitCount_0f7a4 25 = .ok (.iload_n 0, 1) := by decide +kernel
theorem dJ6_bitCount_0f7a4_26 : decode cJ6_bitCount_0f7a4 26 = .ok (.iconst 4, 1) := by decide +kernel
theorem dJ6_bitCount_0f7a4_27 : decode cJ6_bitCount_0f7a4 27 = .ok (.iushr, 1) := by decide +kernel
theorem dJ6_bitCount_0f7a4_28 : decode cJ6_bitCount_0f7a4 28 = .ok (.iadd, 1) := by decide +kernel
theorem dJ6_bitCount_0f7a4_29 : decode cJ6_bitCount_0f7a4 29 = .ok (.ldc_w 267, 3) := by decide +kernel
theorem dJ6_bitCount_0f7a4_32 : decode cJ6_bitCount_0f7a4 32 = .ok (.iand, 1) := by decide +kernel
theorem dJ6_bitCount_0f7a4_33 : decode cJ6_bitCount_0f7a4 33 = .ok (.istore_n 0, 1) := by decide +kernel
theorem dJ6_bitCount_0f7a4_34 : decode cJ6_bitCount_0f7a4 34 = .ok (.iload_n 0, 1) := by decide +kernel
theorem dJ6_bitCount_0f7a4_35 : decode cJ6_bitCount_0f7a4 35 = .ok (.iload_n 0, 1) := by decide +kernel
theorem dJ6_bitCount_0f7a4_36 : decode cJ6_bitCount_0f7a4 36 = .ok (.bipush 8, 2) := by decide +kernel
theorem dJ6_bitCount_0f7a4_38 : decode cJ6_bitCount_0f7a4 38 = .ok (.iushr, 1) := by decide +kernel
theorem dJ6_bitCount_0f7a4_39 : decode cJ6_bitCount_0f7a4 39 = .ok (.iadd, 1) := by decide +kernel
theorem dJ6_bitCount_0f7a4_40 : decode cJ6_bitCount_0f7a4 40 = .ok (.istore_n 0, 1) := by decide +kernel
theorem dJ6_bitCount_0f7a4_41 : decode cJ6_bitCount_0f7a4 41 = .ok (.iload_n 0, 1) := by decide +kernel
theorem dJ6_bitCount_0f7a4_42 : decode cJ6_bitCount_0f7a4 42 = .ok (.iload_n 0, 1) := by decide +kernel
theorem dJ6_bitCount_0f7a4_43 : decode cJ6_bitCount_0f7a4 43 = .ok (.bipush 16, 2) := by decide +kernel
theorem dJ6_bitCount_0f7a4_45 : decode cJ6_bitCount_0f7a4 45 = .ok (.iushr, 1) := by decide +kernel
theorem dJ6_bitCount_0f7a4_46 : decode cJ6_bitCount_0f7a4 46 = .ok (.iadd, 1) := by decide +kernel
theorem dJ6_bitCount_0f7a4_47 : decode cJ6_bitCount_0f7a4 47 = .ok (.istore_n 0, 1) := by decide +kernel
theorem dJ6_bitCount_0f7a4_48 : decode cJ6_bitCount_0f7a4 48 = .ok (.iload_n 0, 1) := by decide +kernel
theorem dJ6_bitCount_0f7a4_49 : decode cJ6_bitCount_0f7a4 49 = .ok (.bipush 63, 2) := by decide +kernel
theorem dJ6_bitCount_0f7a4_51 : decode cJ6_bitCount_0f7a4 51 = .ok (.iand, 1) := by decide +kernel
theorem dJ6_bitCount_0f7a4_52 : decode cJ6_bitCount_0f7a4 52 = .ok (.ireturn, 1) := by decide +kernel
theorem dJ7_fill_53178_0 : decode cJ7_fill_53178 0 = .ok (.iconst 0, 1) := by decide +kernel
theorem dJ7_fill_53178_1 : decode cJ7_fill_53178 1 = .ok (.istore_n 2, 1) := by decide +kernel
theorem dJ7_fill_53178_2 : decode cJ7_fill_53178 2 = .ok (.aload_n 0, 1) := by decide +kernel
theorem dJ7_fill_53178_3 : decode cJ7_fill_53178 3 = .ok (.arraylength, 1) := by decide +kernel
theorem dJ7_fill_53178_4 : decode cJ7_fill_53178 4 = .ok (.istore_n 3, 1) := by decide +kernel
theorem dJ7_fill_53178_5 : decode cJ7_fill_53178 5 = .ok (.iload_n 2, 1) := by decide +kernel
theorem dJ7_fill_53178_6 : decode cJ7_fill_53178 6 = .ok (.iload_n 3, 1) := by decide +kernel
theorem dJ7_fill_53178_7 : decode cJ7_fill_53178 7 = .ok (.if_icmp .ge 13, 3) := by decide +kernel
theorem dJ7_fill_53178_10 : decode cJ7_fill_53178 10 = .ok (.aload_n 0, 1) := by decide +kernel
theorem dJ7_fill_53178_11 : decode cJ7_fill_53178 11 = .ok (.iload_n 2, 1) := by decide +kernel
theorem dJ7_fill_53178_12 : decode cJ7_fill_53178 12 = .ok (.iload_n 1, 1) := by decide +kernel
theorem dJ7_fill_53178_13 : decode cJ7_fill_53178 13 = .ok (.iastore, 1) := by decide +kernel
theorem dJ7_fill_53178_14 : decode cJ7_fill_53178 14 = .ok (.iinc 2 1, 3) := by decide +kernel
theorem dJ7_fill_53178_17 : decode cJ7_fill_53178 17 = .ok (.goto (-12), 3) := by decide +kernel
theorem dJ7_fill_53178_20 : decode cJ7_fill_53178 20 = .ok (.return_, 1) := by decide +kernel
theorem dJ9_abs_0f7a4_0 : decode cJ9_abs_0f7a4 0 = .ok (.iload_n 0, 1) := by decide +kernel
theorem dJ9_abs_0f7a4_1 : decode cJ9_abs_0f7a4 1 = .ok (.ifCond .ge 8, 3) := by decide +kernel
theorem dJ9_abs_0f7a4_4 : decode cJ9_abs_0f7a4 4 = .ok (.iload_n 0, 1) := by decide +kernel
theorem dJ9_abs_0f7a4_5 : decode cJ9_abs_0f7a4 5 = .ok (.ineg, 1) := by decide +kernel
theorem dJ9_abs_0f7a4_6 : decode cJ9_abs_0f7a4 6 = .ok (.goto 4, 3) := by decide +kernel
theorem dJ9_abs_0f7a4_9 : decode cJ9_abs_0f7a4 9 = .ok (.iload_n 0, 1) := by decide +kernel
theorem dJ9_abs_0f7a4_10 : decode cJ9_abs_0f7a4 10 = .ok (.ireturn, 1) := by decide +kernel
theorem dJ9_abs_067f4_0 : decode cJ9_abs_067f4 0 = .ok (.lload_n 0, 1) := by decide +kernel
theorem dJ9_abs_067f4_1 : decode cJ9_abs_067f4 1 = .ok (.lconst 0, 1) := by decide +kernel
theorem dJ9_abs_067f4_2 : decode cJ9_abs_067f4 2 = .ok (.lcmp, 1) := by decide +kernel
theorem dJ9_abs_067f4_3 : decode cJ9_abs_067f4 3 = .ok (.ifCond .ge 8, 3) := by decide +kernel
theorem dJ9_abs_067f4_6 : decode cJ9_abs_067f4 6 = .ok (.lload_n 0, 1) := by decide +kernel
theorem dJ9_abs_067f4_7 : decode cJ9_abs_067f4 7 = .ok (.lneg, 1) := by decide +kernel
theorem dJ9_abs_067f4_8 : decode cJ9_abs_067f4 8 = .ok (.goto 4, 3) := by decide +kernel
theorem dJ9_abs_067f4_11 : decode cJ9_abs_067f4 11 = .ok (.lload_n 0, 1) := by decide +kernel
theorem dJ9_abs_067f4_12 : decode cJ9_abs_067f4 12 = .ok (.lreturn, 1) := by decide +kernel
end
section
/-! ===== the calculus: all cells by their places; a judgement over them, closed over the machine ===== -/
abbrev fp_C : Type := (Nat × List (Option (Option Nat))) ⊕ (Nat ⊕ (Nat × List (Option Nat)))
abbrev fp_M : Type := Nat → Nat → Int32
abbrev fp_Y : Type := MethodName × ByteArray × Nat × Option FieldType × Room
abbrev fp_X : Type := Nat × (Nat → Int32)
abbrev fp_Q : Type := Option Value → List fp_C → fp_M → Prop
/-- the words that a callee may ask for, too -/
def fp_tbl : List Cond := lw_tbl.filter goodWord
theorem fp_in {w : Cond} (h : w ∈ lw_tbl) (hg : goodWord w = true) : w ∈ fp_tbl := List.mem_filter.mpr ⟨h, hg⟩
theorem fp_goodIn {ws : List Cond} (h : ∀ w ∈ ws, w ∈ fp_tbl) : GoodIn fp_tbl ws := fun w hw => ⟨h w hw, good_of_word (List.mem_filter.mp (h w hw)).2⟩
/-- the links to private constructors of nest mates -/
def fp_nest : List (String × Nat × MethodName) := [(RX5, 28, yX0_init), (RX5, 35, yX1_init), (RX5, 42, yX4_init), (RX5, 57, yX3_init), (RX2, 37, yX1_init)]
/-- the value of a field: a number of the memory, null, or a place -/
def fp_fv (base : Nat) (M : fp_M) (k : Nat) (q : Option (Option Nat) × Nat) : Value := match q.1 with
  | none => .int (M k q.2)
  | some none => .null
  | some (some r) => .ref (base + r)
def fp_e (cs : Nat → ClassId) (base : Nat) (M : fp_M) (k : Nat) (c : fp_C) : va_E := match c with
  | .inl o => .inr (o.1, o.2.zipIdx.map (fp_fv base M k))
  | .inr (.inl n) => .inl (cs 0, n, .inl (M k))
  | .inr (.inr a) => .inl (cs a.1, a.2.length, .inr (.inr (.inr (.inr (fun j => (a.2.getD j none).map (fun r => base + r))))))
def fp_w (cs : Nat → ClassId) (base : Nat) (sh : List fp_C) (M : fp_M) : va_W := sh.zipIdx.map (fun q => (base + q.2, fp_e cs base M q.2 q.1))
theorem fp_w_at (cs : Nat → ClassId) (base : Nat) (sh : List fp_C) (M : fp_M) (k : Nat) : (fp_w cs base sh M)[k]? = (sh[k]?).map (fun c => (base + k, fp_e cs base M k c)) := by
  simp only [fp_w, List.getElem?_map, List.getElem?_zipIdx, Nat.zero_add, Option.map_map]
  rfl
theorem fp_w_some {cs : Nat → ClassId} {base : Nat} {sh : List fp_C} {M : fp_M} {k : Nat} {c : fp_C} (h : sh[k]? = some c) : (fp_w cs base sh M)[k]? = some (base + k, fp_e cs base M k c) := by
  rw [fp_w_at, h]; rfl
theorem fp_w_len (cs : Nat → ClassId) (base : Nat) (sh : List fp_C) (M : fp_M) : (fp_w cs base sh M).length = sh.length := by
  simp [fp_w]
theorem fp_e_eq {cs : Nat → ClassId} {base : Nat} {M M' : fp_M} {i : Nat} (h : M' i = M i) (d : fp_C) : fp_e cs base M i d = fp_e cs base M' i d := by
  rcases d with o | n | a
  · show Sum.inr (o.1, o.2.zipIdx.map (fp_fv base M i)) = Sum.inr (o.1, o.2.zipIdx.map (fp_fv base M' i))
    congr 2
    refine List.map_congr_left fun q _ => ?_
    unfold fp_fv
    rw [h]
  · show Sum.inl (cs 0, n, Sum.inl (M i)) = Sum.inl (cs 0, n, Sum.inl (M' i))
    rw [h]
  · rfl
/-- one cell set: the memory, and perhaps its shape, are new there alone -/
theorem fp_w_set {cs : Nat → ClassId} {base : Nat} {sh : List fp_C} {M M' : fp_M} {k : Nat} {c : fp_C} (hk : k < sh.length) (hM : ∀ q, q ≠ k → M' q = M q) : (fp_w cs base sh M).set k (base + k, fp_e cs base M' k c) = fp_w cs base (sh.set k c) M' := by
  refine List.ext_getElem? fun i => ?_
  rw [List.getElem?_set, fp_w_at, fp_w_at, fp_w_len, List.getElem?_set]
  by_cases hi : k = i
  · subst hi
    simp [hk]
  · rw [if_neg hi, if_neg hi]
    cases hc : sh[i]? with
    | none => rfl
    | some d =>
      show some (base + i, fp_e cs base M i d) = some (base + i, fp_e cs base M' i d)
      rw [fp_e_eq (hM i (fun e => hi e.symm)) d]
theorem fp_set_self {sh : List fp_C} {k : Nat} {c : fp_C} (h : sh[k]? = some c) : sh.set k c = sh := by
  refine List.ext_getElem? fun i => ?_
  rw [List.getElem?_set]
  by_cases hi : k = i
  · subst hi
    have hk : k < sh.length := (List.getElem?_eq_some_iff.mp h).1
    simp [hk]
    exact (Option.some.inj (h.symm.trans (List.getElem?_eq_getElem hk))).symm ▸ rfl
  · rw [if_neg hi]
/-- a cell more -/
theorem fp_w_push {cs : Nat → ClassId} {base : Nat} {sh : List fp_C} {M M' : fp_M} {c : fp_C} (hM : ∀ q, q ≠ sh.length → M' q = M q) : fp_w cs base sh M ++ [(base + sh.length, fp_e cs base M' sh.length c)] = fp_w cs base (sh ++ [c]) M' := by
  refine List.ext_getElem? fun i => ?_
  rw [fp_w_at]
  by_cases hi : i < sh.length
  · rw [List.getElem?_append_left (by rw [fp_w_len]; exact hi), List.getElem?_append_left hi, fp_w_at]
    cases hc : sh[i]? with
    | none => rfl
    | some d =>
      show some (base + i, fp_e cs base M i d) = some (base + i, fp_e cs base M' i d)
      rw [fp_e_eq (hM i (Nat.ne_of_lt hi)) d]
  · rw [List.getElem?_append_right (by rw [fp_w_len]; omega), List.getElem?_append_right (by omega), fp_w_len]
    by_cases he : i = sh.length
    · subst he
      simp
    · have h1 : i - sh.length ≠ 0 := by omega
      obtain ⟨n, hn⟩ := Nat.exists_eq_succ_of_ne_zero h1
      rw [hn]
      rfl
/-- the value that a place stands for -/
def fp_v (cv : Nat → Value) (v : Value) : Value := match v with
  | .ref k => cv k
  | w => w
abbrev fp_tys (cs : Nat → ClassId) : List (ClassId × FieldType) := [(cs 0, .int), (cs 1, .object RX1), (cs 2, .object RX3)]
/-- the String constants: their classes, entries and texts -/
def fp_so (i : Nat) : String := if i < 7 then RX1 else RX4
def fp_si : List Nat := [42, 30, 32, 34, 36, 38, 40, 35, 41, 85, 91, 95]
def fp_st : List String := ["letter", "hasty", "sealed", "forged", "copied", "card", "late", "slip", "frost", "days", "mark", "struck"]
def fp_sb : List (List Int32) := [[108, 101, 116, 116, 101, 114], [104, 97, 115, 116, 121], [115, 101, 97, 108, 101, 100], [102, 111, 114, 103, 101, 100], [99, 111, 112, 105, 101, 100], [99, 97, 114, 100], [108, 97, 116, 101], [115, 108, 105, 112], [102, 114, 111, 115, 116], [100, 97, 121, 115], [109, 97, 114, 107], [115, 116, 114, 117, 99, 107]]
def fp_sl : List Nat := [6, 5, 6, 6, 6, 4, 4, 4, 5, 4, 4, 6]
/-- what is never written: the String constants, two statics, the script; and what the tables say that isn't a word for callees -/
def fp_R (X : fp_X) (cv : Nat → Value) (A : Nat → Prop) (U : State) (H : Heap) : Prop :=
  va_Z RJ0 "COMPACT_STRINGS" "Z" (.int 1) A U H ∧ va_Z RJ3 "SIOOBE_FORMATTER" "Ljava/util/function/BiFunction;" (cv 140) A U H ∧
  (∃ adK adV : Nat → Nat, vk_S 12 fp_sl fp_sb adK adV A U H ∧ (∀ i, i < 12 → cv (100 + i) = .ref (adK i) ∧ cv (120 + i) = .ref (adV i)) ∧ ∀ i, i < 12 → vk_R (fp_so i) (fp_si.getD i 0) (fp_st.getD i "") (adK i) U) ∧
  (∃ b : Nat, cv 150 = .ref b ∧ b < H.size ∧ va_X b X.1 X.2 U H ∧ ¬ A b) ∧ (∀ q ∈ fp_nest, va_Nw (.methodLinkNest q.1 q.2.1 q.2.2 "FarPost") U) ∧ va_AO RX1 U ∧ va_AO RX3 U
theorem fp_R.to {X : fp_X} {cv : Nat → Value} {A A1 : Nat → Prop} {s U : State} {locs : List Loc} {H : Heap} (h : fp_R X cv A s s.heap) (hS : va_S A s.heap H locs) (hW : s.WarmedH U.vm) (hA : ∀ q, q < H.size → A1 q → A q) : fp_R X cv A1 U H := by
  obtain ⟨h1, h2, ⟨adK, adV, h3, h4, h5⟩, ⟨b, h6, h7, h8, h9⟩, h10, h11, h12⟩ := h
  have hk : ∀ a : Nat, a < s.heap.size → ¬ A a → H[a]? = s.heap[a]? := hS.2.1
  have nz : ∀ {C n d : String} {v : Value}, va_Z C n d v A s s.heap → va_Z C n d v A1 U H := by
    intro C n d v hz
    obtain ⟨cf, kf, fi, f, a, cell, z1, z2, z3, z4, z5, z6, z7, z8⟩ := (hz.kept hk).moved hW.alike
    exact ⟨cf, kf, fi, f, a, cell, z1, z2, z3, z4, z5, z6, z7, fun z => z8 (hA a (Array.getElem?_eq_some_iff.mp z5).1 z)⟩
  have no : ∀ {E : String} {t : Nat}, va_O E t A s s.heap → va_O E t A1 U H := by
    intro E t hz
    obtain ⟨cell, z1, z2, z3, z4⟩ := (hz.kept hk).moved hW.alike
    exact ⟨cell, z1, z2, z3, fun z => z4 (hA t (Array.getElem?_eq_some_iff.mp z1).1 z)⟩
  have nf : ∀ {o n d : String} {v : Value} {t : Nat}, va_OF o n d v t A s s.heap → va_OF o n d v t A1 U H := by
    intro o n d v t hz
    obtain ⟨cf, k, i, f, cell, z1, z2, z3, z4, z5, z6⟩ := (hz.kept hk).moved hW.alike
    exact ⟨cf, k, i, f, cell, z1, z2, z3, z4, z5, fun z => z6 (hA t (Array.getElem?_eq_some_iff.mp z3).1 z)⟩
  have nt : ∀ {ty : FieldType} {t N : Nat} {f : Nat → Value}, va_T ty t N f A s s.heap → va_T ty t N f A1 U H := by
    intro ty t N f hz
    obtain ⟨cell, z1, z2, z3, z4, z5, z6, z7⟩ := (hz.kept hk).moved hW.alike
    exact ⟨cell, z1, z2, z3, z4, z5, z6, fun z => z7 (hA t (Array.getElem?_eq_some_iff.mp z1).1 z)⟩
  refine ⟨nz h1, nz h2, ⟨adK, adV, ⟨fun i hi => ?_, h3.2⟩, h4, fun i hi => (h5 i hi).warm hW⟩, ⟨b, h6, Nat.lt_of_lt_of_le h7 hS.1, ?_, fun z => h9 (hA b (Nat.lt_of_lt_of_le h7 hS.1) z)⟩, fun q hq => (h10 q hq).warmM hW, h11.moved hW.alike, h12.moved hW.alike⟩
  · obtain ⟨g1, g2, g3, g4⟩ := h3.1 i hi
    exact ⟨no g1, nf g2, nf g3, nt g4⟩
  · exact (h8.kept (hk b h7 h9)).moved hW.alike
theorem fp_R.calling {X : fp_X} {cv : Nat → Value} {A : Nat → Prop} {U V : State} {H : Heap} (hv : V.vm = U.vm) (h : fp_R X cv A U H) : fp_R X cv A V H := by
  have hal : U.vm.Alike V.vm := by rw [hv]; exact Vm.Alike.refl U.vm
  obtain ⟨h1, h2, ⟨adK, adV, h3, h4, h5⟩, ⟨b, h6, h7, h8, h9⟩, h10, h11, h12⟩ := h
  exact ⟨h1.moved hal, h2.moved hal, ⟨adK, adV, h3.moved hal, h4, fun i hi => (h5 i hi).same hv⟩, ⟨b, h6, h7, h8.moved hal, h9⟩, fun q hq => (h10 q hq).same rfl hv.symm, h11.moved hal, h12.moved hal⟩
/-- a frame of method μ -/
def fp_F (X : fp_X) (μ : fp_Y) (p : Program) (s : State) (m : MethodId) (args : Array Value) (meth : Method) (c : Code) (D : va_G) (cs : Nat → ClassId) (cv : Nat → Value) (base : Nat) (A : Nat → Prop) : Prop :=
  p.tables.exec = Jvm.exec ∧ c.code = μ.2.1 ∧ meth.sig.returnType = μ.2.2.2.1 ∧ c.maxLocals = μ.2.2.1 ∧ s.vm.findClass μ.1.cls = some m.cls ∧ (∀ w ∈ fp_tbl, w.before args s = true) ∧ meth.locks = false ∧ (μ.1.name = "<init>" → meth.name = "<init>") ∧ va_K D vwCl (fp_tys cs) s ∧ (∀ q, s.heap.size ≤ q → A q) ∧ ((∀ k, k < 100 → cv k = .ref (base + k)) ∧ ∀ k, (cv k).category = 1) ∧ fp_R X cv A s s.heap
/-- the heap holds the cells -/
def fp_H (D : va_G) (cs : Nat → ClassId) (base : Nat) (A : Nat → Prop) (s : State) (sh : List fp_C) (M : fp_M) (H : Heap) (locs : List Loc) : Prop :=
  va_P D vwCl (fp_w cs base sh M) H ∧ va_D A (fp_w cs base sh M) ∧ va_S A s.heap H locs ∧ H.size = base + sh.length ∧ sh.length ≤ 100
def fp_L (cv : Nat → Value) (lsA : Array Slot) (nL : Nat) (ls : List (Option Value)) : Prop :=
  lsA.size = nL ∧ lv_wf lsA ∧ ls.length = nL ∧ ∀ (i : Nat) (v : Value), ls[i]? = some (some v) → lsA[i]? = some (.val (fp_v cv v))
/-- which instruction gives which answer -/
def fp_rt (ty : Option FieldType) (ins : Instr) (r : Option Value) : Prop :=
  (ins = .ireturn ∧ ∃ (v : Int32) (t : FieldType), ty = some t ∧ narrow t (.int v) = .int v ∧ r = some (.int v)) ∨ (ins = .lreturn ∧ ty = some .long ∧ ∃ v : Int64, r = some (.long v)) ∨ (ins = .areturn ∧ ∃ (k : Nat) (t : String), ty = some (.object t) ∧ 100 ≤ k ∧ k < 112 ∧ r = some (.ref k)) ∨ (ins = .return_ ∧ ty = none ∧ r = none)
/-- THE JUDGEMENT: method μ at pc, with these locals, stack and cells, comes to an end with Post -/
def fp_W (X : fp_X) (μ : fp_Y) (pc : Nat) (ls : List (Option Value)) (st : List Value) (sh : List fp_C) (M : fp_M) (nc ns : Nat) (Post : fp_Q) : Prop :=
  ∀ (p : Program) (l : Launch) (e : Env) (s : State) (m : MethodId) (args : Array Value) (below : List Frame) (meth : Method) (c : Code) (D : va_G) (cs : Nat → ClassId) (cv : Nat → Value) (base : Nat) (A : Nat → Prop) (Q : State → Prop) (H : Heap) (locs : List Loc) (lsA : Array Slot),
    fp_F X μ p s m args meth c D cs cv base A → fp_H D cs base A s sh M H locs → fp_L cv lsA μ.2.2.1 ls → (nc ≤ μ.2.2.2.2.cells ∧ ns ≤ μ.2.2.2.2.slots) →
    (∀ (ins : Instr) (r : Option Value) (pc' : Nat) (lsA' : Array Slot) (sh' : List fp_C) (M' : fp_M) (H' : Heap) (locs' : List Loc) (nc' ns' : Nat), decode μ.2.1 pc' = .ok (ins, 1) → fp_rt μ.2.2.2.1 ins r → (nc' ≤ μ.2.2.2.2.cells ∧ ns' ≤ μ.2.2.2.2.slots) → Post r sh' M' → fp_H D cs base A s sh' M' H' locs' → W p l e μ.2.2.2.2 s m args below meth c H' locs' nc' ns' Q (F0 m pc' lsA' (r.toList.map (fp_v cv)))) →
    W p l e μ.2.2.2.2 s m args below meth c H locs nc ns Q (F0 m pc lsA (st.map (fp_v cv)))
/-- a method's contract: what must hold ahead of it, and behind it -/
def fp_Pc (X : fp_X) (D : va_G) (cs : Nat → ClassId) (cv : Nat → Value) (base : Nat) (av : List Value) (sh : List fp_C) (M : fp_M) : Array Value → State → Prop := fun v U =>
  v = (av.map (fp_v cv)).toArray ∧ U.heap.size = base + sh.length ∧ sh.length ≤ 100 ∧ va_P D vwCl (fp_w cs base sh M) U.heap ∧ va_K D vwCl (fp_tys cs) U ∧ va_D (fun _ => True) (fp_w cs base sh M) ∧ fp_R X cv (va_A (fp_w cs base sh M) (base + sh.length)) U U.heap ∧ (∀ k, k < 100 → cv k = .ref (base + k)) ∧ ∀ k, (cv k).category = 1
def fp_Qc (D : va_G) (cs : Nat → ClassId) (cv : Nat → Value) (base : Nat) (Post : fp_Q) (A : Nat → Prop) : Array Value → State → Outcome → State → Prop := fun _ st oc t =>
  (∃ (r : Option Value) (sh' : List fp_C) (M' : fp_M), oc = .returned (r.map (fp_v cv)) ∧ Post r sh' M' ∧ t.heap.size = base + sh'.length ∧ sh'.length ≤ 100 ∧ va_P D vwCl (fp_w cs base sh' M') t.heap ∧ va_D A (fp_w cs base sh' M')) ∧ va_F A st t
abbrev fp_ws (μ : fp_Y) : List Cond := Cond.code μ.1 μ.2.1 μ.2.2.1 μ.2.2.2.1 :: fp_tbl
def fp_Ok (X : fp_X) (μ : fp_Y) (av : List Value) (sh : List fp_C) (M : fp_M) (Post : fp_Q) : Prop :=
  ∀ (l : Launch) (D : va_G) (cs : Nat → ClassId) (cv : Nat → Value) (base : Nat), Met l μ.1 (fp_ws μ) μ.2.2.2.2 (fp_Pc X D cs cv base av sh M) (fp_Qc D cs cv base Post (va_A (fp_w cs base sh M) (base + sh.length))) μ.2.2.2.2.cells μ.2.2.2.2.slots (va_A (fp_w cs base sh M) (base + sh.length))
/-- the locals at a method's entry -/
def fp_ent : List Value → List (Option Value)
  | [] => []
  | v :: t => if v.category = 2 then some v :: none :: fp_ent t else some v :: fp_ent t
theorem fp_cat (cv : Nat → Value) (hc : ∀ k, (cv k).category = 1) (v : Value) : (fp_v cv v).category = v.category := by
  cases v <;> first | rfl | exact hc _
end
section
/-! ===== a method's body gives its contract; calls ===== -/
theorem fp_ent_at (cv : Nat → Value) (hc : ∀ k, (cv k).category = 1) : ∀ (av : List Value) (i : Nat) (v : Value), (fp_ent av)[i]? = some (some v) → (lg_sl (av.map (fp_v cv)))[i]? = some (.val (fp_v cv v)) := by
  intro av
  induction av with
  | nil => intro i v h; simp [fp_ent] at h
  | cons a t ih =>
    intro i v h
    have hl : lg_sl ((a :: t).map (fp_v cv)) = (if (fp_v cv a).category = 2 then [.val (fp_v cv a), .second] else [.val (fp_v cv a)]) ++ lg_sl (t.map (fp_v cv)) := rfl
    rw [hl, fp_cat cv hc a]
    unfold fp_ent at h
    by_cases h2 : a.category = 2
    · rw [if_pos h2] at h ⊢
      match i, h with
      | 0, h => simp at h; subst h; rfl
      | 1, h => simp at h
      | i + 2, h => exact ih i v h
    · rw [if_neg h2] at h ⊢
      match i, h with
      | 0, h => simp at h; subst h; rfl
      | i + 1, h => exact ih i v h
theorem fp_ent_len (cv : Nat → Value) (hc : ∀ k, (cv k).category = 1) : ∀ (av : List Value), (lg_sl (av.map (fp_v cv))).length = (fp_ent av).length := by
  intro av
  induction av with
  | nil => rfl
  | cons a t ih =>
    have hl : lg_sl ((a :: t).map (fp_v cv)) = (if (fp_v cv a).category = 2 then [.val (fp_v cv a), .second] else [.val (fp_v cv a)]) ++ lg_sl (t.map (fp_v cv)) := rfl
    rw [hl, fp_cat cv hc a]
    unfold fp_ent
    by_cases h2 : a.category = 2
    · rw [if_pos h2, if_pos h2]; simp [ih]
    · rw [if_neg h2, if_neg h2]; simp [ih]
set_option maxHeartbeats 1000000 in
/-- the body gives the contract -/
theorem fp_ok {X : fp_X} {μ : fp_Y} {av : List Value} {sh : List fp_C} {M : fp_M} {Post : fp_Q} (ls : List (Option Value)) (k : fp_W X μ 0 ls [] sh M 0 0 Post) (hy : plainName μ.1.cls = true := by decide) (hle : (fp_ent av).length ≤ μ.2.2.1 := by exact Nat.le_of_ble_eq_true rfl) (hls : ls = fp_ent av ++ List.replicate (μ.2.2.1 - (fp_ent av).length) none := by rfl) : fp_Ok X μ av sh M Post := by
  intro l D cs cv base
  refine Met.ofW (cc := μ.2.1) (maxL := μ.2.2.1) (ret := μ.2.2.2.1) hy rfl ?_
  intro p e s m args below meth c s₁ B hml hv
  obtain ⟨rfl, hsz, hcap, hP, hK, hD, hR, hcv, hcc⟩ := hv
  have hts := atoms_spec (ws := fp_ws μ) B.pre
  have hlocks := B.notSynchronized
  have hown : s.vm.findClass μ.1.cls = some m.cls := findClass_of_methodNamed B.named
  have hF : fp_F X μ p s m (av.map (fp_v cv)).toArray meth c D cs cv base (va_A (fp_w cs base sh M) (base + sh.length)) := ⟨B.exec, B.bytes, B.returns, hml, hown, fun w h => hts w (List.mem_cons_of_mem _ h), B.notSynchronized, fun hi => ((name_of_methodNamed B.named B.method).1).trans hi, hK, fun q h => Or.inr (by rw [hsz] at h; exact h), ⟨hcv, hcc⟩, hR⟩
  have hH : fp_H D cs base (va_A (fp_w cs base sh M) (base + sh.length)) s sh M s.heap [] := ⟨hP, hD.self, va_S.rf, hsz, hcap⟩
  rw [lg_entry_eq]
  have hlen : (lg_sl (av.map (fp_v cv))).length ≤ μ.2.2.1 := by rw [fp_ent_len cv hcc]; exact hle
  have hl := lv_entry (av.map (fp_v cv)) (n := μ.2.2.1) hlen
  have hL : fp_L cv ((lg_sl (av.map (fp_v cv)) ++ List.replicate (μ.2.2.1 - (lg_sl (av.map (fp_v cv))).length) Slot.unset).toArray) μ.2.2.1 ls := by
    refine ⟨hl.1, hl.2.1, ?_, fun i v hv => ?_⟩
    · rw [hls]; simp; omega
    · rw [hls] at hv
      by_cases hi : i < (fp_ent av).length
      · rw [List.getElem?_append_left hi] at hv
        have h1 := fp_ent_at cv hcc av i v hv
        rw [List.getElem?_toArray, List.getElem?_append_left (by rw [fp_ent_len cv hcc]; exact hi)]
        exact h1
      · rw [List.getElem?_append_right (by omega)] at hv
        have := List.mem_of_getElem? hv
        simp at this
  refine k p l e s m _ below meth c D cs cv base _ _ s.heap [] _ hF hH hL ⟨Nat.zero_le _, Nat.zero_le _⟩ ?_
  intro ins r pc' lsA' sh' M' H' locs' nc' ns' hd hrt hn hp hH'
  refine W.widen hn.1 hn.2 ?_
  have hq : ∀ (t : State), t.heap = H' → s.WarmedH t.vm → fp_Qc D cs cv base Post (va_A (fp_w cs base sh M) (base + sh.length)) (av.map (fp_v cv)).toArray s (.returned (r.map (fp_v cv))) t := fun t ht _ => ⟨⟨r, sh', M', rfl, hp, by rw [ht]; exact hH'.2.2.2.1, hH'.2.2.2.2, by rw [ht]; exact hH'.1, hH'.2.1⟩, hH'.2.2.1.F ht⟩
  rcases hrt with ⟨rfl, v, t, hty, hnar, rfl⟩ | ⟨rfl, hty, v, rfl⟩ | ⟨rfl, q, t, hty, h1, h2, rfl⟩ | ⟨rfl, hty, rfl⟩
  · exact W.zret B.exec B.bytes (B.returns.trans hty) hnar hq hH'.2.2.1.2.2 hd
  · exact W.lret B.exec B.bytes (B.returns.trans hty) hq hH'.2.2.1.2.2 hd
  · obtain ⟨-, -, ⟨adK, adV, -, hst, -⟩, -⟩ := hR
    have hk := (hst (q - 100) (by omega)).1
    rw [show 100 + (q - 100) = q by omega] at hk
    exact W.aret (v := cv q) B.exec B.bytes (B.returns.trans hty) (Or.inl ⟨t, rfl⟩) (Or.inr ⟨_, hk⟩) hq hH'.2.2.1.2.2 hd
  · exact W.vret B.exec B.bytes (B.returns.trans hty) hq hH'.2.2.1.2.2 hd
theorem fp_sub {cs : Nat → ClassId} {D : va_G} {base : Nat} {A : Nat → Prop} {s : State} {sh : List fp_C} {M : fp_M} {H : Heap} {locs : List Loc} (hH : fp_H D cs base A s sh M H locs) (hA : ∀ q, s.heap.size ≤ q → A q) : ∀ q, va_A (fp_w cs base sh M) (base + sh.length) q → A q := by
  intro q h
  rcases h with ⟨k, e, h⟩ | h
  · exact hH.2.1.2 k (q, e) h
  · exact hA q (Nat.le_trans hH.2.2.1.1 (by rw [hH.2.2.2.1]; exact h))
section FPB
variable {p : Program} {l : Launch} {e : Env} {R : Room} {s : State} {m : MethodId} {args : Array Value} {below : List Frame} {meth : Method} {c : Code} {H : Heap} {locs : List Loc} {nc ns : Nat} {Q : State → Prop}
/-- behind a call -/
theorem fp_back {D : va_G} {cs : Nat → ClassId} {cv : Nat → Value} {base : Nat} {A : Nat → Prop} {sh : List fp_C} {M : fp_M} {P1 : fp_Q} {mc ms pc : Nat} {lsA : Array Slot} {st0 rest : List Value} {a : Array Value}
    (hr : va_Run p l e R s m args below meth c H locs nc ns mc ms (F0 m pc lsA st0) rest (fp_Qc D cs cv base P1 (va_A (fp_w cs base sh M) (base + sh.length)) a) (va_A (fp_w cs base sh M) (base + sh.length))) (hH : fp_H D cs base A s sh M H locs) (hA : ∀ q, s.heap.size ≤ q → A q)
    (kk : ∀ (r : Option Value) (sh' : List fp_C) (M' : fp_M) (H' : Heap) (locs' : List Loc), P1 r sh' M' → fp_H D cs base A s sh' M' H' locs' → W p l e R s m args below meth c H' locs' (nc + mc) (ns + ms) Q (F0 m (pc + 3) lsA ((r.map (fp_v cv)).toList ++ rest))) : W p l e R s m args below meth c H locs nc ns Q (F0 m pc lsA st0) := by
  have hsub := fp_sub hH hA
  intro T hT X
  obtain ⟨v, st₀, t, T', L, h0, X', hL, e1, e2, ⟨⟨r, sh', M', hv, hp, hz, hcap, hP', hD'⟩, hF⟩, st⟩ := hr T hT X
  cases hv
  obtain ⟨hP, hD, hS, hsz, -⟩ := hH
  have hF1 := hF.1
  have hF2 := hF.2
  rw [h0] at hF1 hF2
  obtain ⟨t2, a1, b1⟩ := kk r sh' M' T'.heap (locs ++ L) hp ⟨by rw [e1]; exact hP', hD'.weaken (fun k q _ h => hsub _ h), ⟨Nat.le_trans hS.1 (by rw [e1]; exact hF1), fun q h1 h2 => by rw [e1, hF2 q (Nat.lt_of_lt_of_le h1 hS.1) (fun z => h2 (hsub q z))]; exact hS.2.1 q h1 h2, fun q hq => by
      rcases List.mem_append.mp hq with h | h
      · exact hS.2.2 q h
      · exact hsub _ (hL q h)⟩, by rw [e1]; exact hz, hcap⟩ T' rfl X'
  exact ⟨t2, st t2 a1, b1⟩
end FPB
theorem fp_blind (X : fp_X) (D : va_G) (cs : Nat → ClassId) (cv : Nat → Value) (base : Nat) (av : List Value) (sh : List fp_C) (M : fp_M) : FrameBlind (fp_Pc X D cs cv base av sh M) := by
  intro a U g mk q
  obtain ⟨h1, h2, h3, h4, h5, h6, h7, h8⟩ := q
  exact ⟨h1, h2, h3, h4, va_K.moved (u := U) (U := U.calling g mk a) (Vm.Alike.refl U.vm) h5, h6, fp_R.calling (U := U) (V := U.calling g mk a) rfl h7, h8⟩
theorem fp_pre {X : fp_X} {μ : fp_Y} {p : Program} {s : State} {m : MethodId} {args : Array Value} {meth : Method} {c : Code} {D : va_G} {cs : Nat → ClassId} {cv : Nat → Value} {base : Nat} {A : Nat → Prop} {sh : List fp_C} {M : fp_M} {H : Heap} {locs : List Loc} (hF : fp_F X μ p s m args meth c D cs cv base A) (hH : fp_H D cs base A s sh M H locs) (av : List Value) : PreS s H (fp_Pc X D cs cv base av sh M) (av.map (fp_v cv)) := by
  obtain ⟨hx, hb, hr, hml, hown, hts, hlk, hin, hK, hA, hcv, hR⟩ := hF
  have hsub := fp_sub hH hA
  obtain ⟨hP, hD, hS, hsz, hcap⟩ := hH
  refine ⟨fp_blind X D cs cv base av sh M, fun U hU hW => ⟨rfl, by rw [hU]; exact hsz, hcap, by rw [hU]; exact hP, va_K.moved hW.alike hK, hD.weaken (fun _ _ _ _ => trivial), ?_, hcv⟩⟩
  rw [hU]
  exact hR.to hS hW (fun q _ h => hsub q h)
/-- what the tables say of a method: static, of an object, a constructor -/
def fp_hd (y : MethodName) (n : Nat) : Prop := y.cls ≠ "java/lang/invoke/MethodHandle" ∧ y.cls ≠ "java/lang/invoke/VarHandle" ∧ (parseMethodDescriptor y.desc).map (fun d => d.parameters.length) = some n
abbrev fp_cd (μ : fp_Y) : Cond := Cond.code μ.1 μ.2.1 μ.2.2.1 μ.2.2.2.1
def fp_mS (μ : fp_Y) (n : Nat) : Prop := Cond.static μ.1 ∈ fp_tbl ∧ Cond.initialized μ.1.cls ∈ fp_tbl ∧ fp_cd μ ∈ fp_tbl ∧ fp_hd μ.1 n
def fp_mV (μ : fp_Y) (n : Nat) : Prop := Cond.instanceMethod μ.1 ∈ fp_tbl ∧ Cond.selects μ.1.cls μ.1 μ.1 ∈ fp_tbl ∧ Cond.initialized μ.1.cls ∈ fp_tbl ∧ fp_cd μ ∈ fp_tbl ∧ fp_hd μ.1 n
def fp_mI (μ : fp_Y) (n : Nat) : Prop := Cond.instanceMethod μ.1 ∈ fp_tbl ∧ μ.1.name = "<init>" ∧ Cond.initialized μ.1.cls ∈ fp_tbl ∧ fp_cd μ ∈ fp_tbl ∧ fp_hd μ.1 n ∧ μ.2.2.2.1 = none
abbrev fp_rm (μ μz : fp_Y) : Prop := μz.2.2.2.2.frames + 1 ≤ μ.2.2.2.2.frames ∧ 8 + (μz.2.2.1 + 11) + μz.2.2.2.2.locals ≤ μ.2.2.2.2.locals
theorem fp_ws_in {μ : fp_Y} (h : fp_cd μ ∈ fp_tbl) : ∀ w ∈ fp_ws μ, w ∈ fp_tbl := fun w hw => (List.mem_cons.mp hw).elim (fun e => e ▸ h) id
theorem fp_cats (cv : Nat → Value) (hc : ∀ k, (cv k).category = 1) (st : List Value) : ((st.map (fp_v cv)).map fun v => v.category) = st.map fun v => v.category := by
  rw [List.map_map]
  exact List.map_congr_left fun v _ => fp_cat cv hc v
theorem fp_tail (cv : Nat → Value) (r : Option Value) (st : List Value) : (r.map (fp_v cv)).toList ++ st.map (fp_v cv) = (r.toList ++ st).map (fp_v cv) := by
  cases r <;> rfl
section FPC
variable {X : fp_X} {μ μz : fp_Y} {pc idx n : Nat} {ls : List (Option Value)} {st av : List Value} {sh : List fp_C} {M : fp_M} {nc ns : Nat} {Post P1 : fp_Q}
theorem fp_callS (hd : decode μ.2.1 pc = .ok (.invokestatic idx, 3)) (hl : Cond.methodLink μ.1.cls idx μz.1 ∈ fp_tbl) (hm : fp_mS μz n) (hrm : fp_rm μ μz) (hn : av.length = n) (hst : (st.map fun v => v.category).sum ≤ 8) (hc : nc + μz.2.2.2.2.cells ≤ μ.2.2.2.2.cells ∧ ns + μz.2.2.2.2.slots ≤ μ.2.2.2.2.slots) (hok : fp_Ok X μz av sh M P1)
    (kk : ∀ (r : Option Value) (sh' : List fp_C) (M' : fp_M), P1 r sh' M' → fp_W X μ (pc + 3) ls (r.toList ++ st) sh' M' (nc + μz.2.2.2.2.cells) (ns + μz.2.2.2.2.slots) Post) : fp_W X μ pc ls (av.reverse ++ st) sh M nc ns Post := by
  intro p l e s m args below meth c D cs cv base A Q H locs lsA hF hH hL hN hret
  have hpre := fp_pre hF hH av
  obtain ⟨hx, hb, hr, hml, hown, hts, hlk, hin, hK, hA, hcv, hR⟩ := id hF
  obtain ⟨m1, m2, m3, m4⟩ := hm
  refine fp_back (va_runS (Ts := fp_tbl) (bytes := μz.2.1) (maxL := μz.2.2.1) (ret := μz.2.2.2.1) (ws := fp_ws μz) (rest := st.map (fp_v cv)) (As := av.map (fp_v cv)) (own := μ.1.cls) ⟨hx, hb, hml, hown, hts⟩ (hok l D cs cv base) ⟨callB_of n hts (fp_goodIn (fp_ws_in m3)) rfl rfl rfl (hts _ m2) (hts _ hl) m4 hrm, hts _ m1⟩ hpre rfl (by rw [List.length_map]; exact hn) hL.1 ?_ (lv_room (by rw [fp_cats cv hcv.2]; exact hst)) hd hc) hH hA ?_
  · show List.map (fp_v cv) (av.reverse ++ st) = _
    rw [List.map_append, List.map_reverse]
  · intro r sh' M' H' locs' hp hH'
    rw [fp_tail]
    exact kk r sh' M' hp p l e s m args below meth c D cs cv base A Q H' locs' lsA hF hH' hL hc hret
theorem fp_callV (hd : decode μ.2.1 pc = .ok (.invokevirtual idx, 3)) (hl : Cond.methodLink μ.1.cls idx μz.1 ∈ fp_tbl) (hm : fp_mV μz n) (hrm : fp_rm μ μz) (hn : av.length = n) (hst : (st.map fun v => v.category).sum ≤ 8) (hc : nc + μz.2.2.2.2.cells ≤ μ.2.2.2.2.cells ∧ ns + μz.2.2.2.2.slots ≤ μ.2.2.2.2.slots) {k ci : Nat} {fs : List (Option (Option Nat))} (hs : sh[k]? = some (.inl (ci, fs))) (hcl : (vwCl[ci]?).map (fun q => q.1) = some μz.1.cls) (hok : fp_Ok X μz (.ref k :: av) sh M P1)
    (kk : ∀ (r : Option Value) (sh' : List fp_C) (M' : fp_M), P1 r sh' M' → fp_W X μ (pc + 3) ls (r.toList ++ st) sh' M' (nc + μz.2.2.2.2.cells) (ns + μz.2.2.2.2.slots) Post) : fp_W X μ pc ls (av.reverse ++ .ref k :: st) sh M nc ns Post := by
  intro p l e s m args below meth c D cs cv base A Q H locs lsA hF hH hL hN hret
  have hpre := fp_pre hF hH (.ref k :: av)
  obtain ⟨hx, hb, hr, hml, hown, hts, hlk, hin, hK, hA, hcv, hR⟩ := id hF
  obtain ⟨m1, m2, m3, m4, m5⟩ := hm
  have hk : k < 100 := Nat.lt_of_lt_of_le (List.getElem?_eq_some_iff.mp hs).1 hH.2.2.2.2
  have hrv : fp_v cv (.ref k) = .ref (base + k) := hcv.1 k hk
  obtain ⟨q, hq⟩ : ∃ q, vwCl[ci]? = some q := by
    cases h : vwCl[ci]? with
    | none => rw [h] at hcl; cases hcl
    | some q => exact ⟨q, rfl⟩
  have hqc : q.1 = μz.1.cls := by rw [hq] at hcl; exact Option.some.inj hcl
  have hcell := va_recv hK hH.1 hq (q0 := k) (a := base + k) (fs := fs.zipIdx.map (fp_fv base M k)) (by rw [fp_w_some hs]; rfl)
  rw [hqc] at hcell
  have hlist : (Value.ref (base + k) :: av.map (fp_v cv)) = ((.ref k :: av).map (fp_v cv)) := by rw [List.map_cons, hrv]
  refine fp_back (va_runV (Ts := fp_tbl) (C := μz.1.cls) (b := base + k) (bytes := μz.2.1) (maxL := μz.2.2.1) (ret := μz.2.2.2.1) (ws := fp_ws μz) (rest := st.map (fp_v cv)) (As := av.map (fp_v cv)) (own := μ.1.cls) ⟨hx, hb, hml, hown, hts⟩ (hok l D cs cv base) ⟨callB_of n hts (fp_goodIn (fp_ws_in m4)) rfl rfl rfl (hts _ m3) (hts _ hl) m5 hrm, hts _ m1, hts _ m2⟩ ⟨hpre.1, hcell, fun U hU hW => by rw [hlist]; exact hpre.2 U hU hW⟩ rfl (by rw [List.length_map]; exact hn) hL.1 ?_ (lv_room (by rw [fp_cats cv hcv.2]; exact hst)) hd hc) hH hA ?_
  · show List.map (fp_v cv) (av.reverse ++ .ref k :: st) = _
    rw [List.map_append, List.map_reverse, List.map_cons, hrv]
  · intro r sh' M' H' locs' hp hH'
    rw [fp_tail]
    exact kk r sh' M' hp p l e s m args below meth c D cs cv base A Q H' locs' lsA hF hH' hL hc hret
/-- a call on a String constant -/
theorem fp_callVS (hd : decode μ.2.1 pc = .ok (.invokevirtual idx, 3)) (hl : Cond.methodLink μ.1.cls idx μz.1 ∈ fp_tbl) (hm : fp_mV μz n) (hrm : fp_rm μ μz) (hn : av.length = n) (hst : (st.map fun v => v.category).sum ≤ 8) (hc : nc + μz.2.2.2.2.cells ≤ μ.2.2.2.2.cells ∧ ns + μz.2.2.2.2.slots ≤ μ.2.2.2.2.slots) {i : Nat} (hi : i < 12) (hcl : μz.1.cls = "java/lang/String") (hok : fp_Ok X μz (.ref (100 + i) :: av) sh M P1)
    (kk : ∀ (r : Option Value) (sh' : List fp_C) (M' : fp_M), P1 r sh' M' → fp_W X μ (pc + 3) ls (r.toList ++ st) sh' M' (nc + μz.2.2.2.2.cells) (ns + μz.2.2.2.2.slots) Post) : fp_W X μ pc ls (av.reverse ++ .ref (100 + i) :: st) sh M nc ns Post := by
  intro p l e s m args below meth c D cs cv base A Q H locs lsA hF hH hL hN hret
  have hpre := fp_pre hF hH (.ref (100 + i) :: av)
  obtain ⟨hx, hb, hr, hml, hown, hts, hlk, hin, hK, hA, hcv, hR⟩ := id hF
  obtain ⟨m1, m2, m3, m4, m5⟩ := hm
  obtain ⟨-, -, ⟨adK, adV, hvk, had, -⟩, -⟩ := hR
  have hrv : fp_v cv (.ref (100 + i)) = .ref (adK i) := (had i hi).1
  have hcell := vk_recv hvk hi hH.2.2.1
  rw [← hcl] at hcell
  have hlist : (Value.ref (adK i) :: av.map (fp_v cv)) = ((.ref (100 + i) :: av).map (fp_v cv)) := by rw [List.map_cons, hrv]
  refine fp_back (va_runV (Ts := fp_tbl) (C := μz.1.cls) (b := adK i) (bytes := μz.2.1) (maxL := μz.2.2.1) (ret := μz.2.2.2.1) (ws := fp_ws μz) (rest := st.map (fp_v cv)) (As := av.map (fp_v cv)) (own := μ.1.cls) ⟨hx, hb, hml, hown, hts⟩ (hok l D cs cv base) ⟨callB_of n hts (fp_goodIn (fp_ws_in m4)) rfl rfl rfl (hts _ m3) (hts _ hl) m5 hrm, hts _ m1, hts _ m2⟩ ⟨hpre.1, hcell, fun U hU hW => by rw [hlist]; exact hpre.2 U hU hW⟩ rfl (by rw [List.length_map]; exact hn) hL.1 ?_ (lv_room (by rw [fp_cats cv hcv.2]; exact hst)) hd hc) hH hA ?_
  · show List.map (fp_v cv) (av.reverse ++ .ref (100 + i) :: st) = _
    rw [List.map_append, List.map_reverse, List.map_cons, hrv]
  · intro r sh' M' H' locs' hp hH'
    rw [fp_tail]
    exact kk r sh' M' hp p l e s m args below meth c D cs cv base A Q H' locs' lsA hF hH' hL hc hret
/-- a constructor -/
theorem fp_callI (hd : decode μ.2.1 pc = .ok (.invokespecial idx, 3)) (hl : Cond.methodLink μ.1.cls idx μz.1 ∈ fp_tbl) (hm : fp_mI μz n) (hrm : fp_rm μ μz) (hn : av.length = n) (hst : (st.map fun v => v.category).sum ≤ 8) (hc : nc + μz.2.2.2.2.cells ≤ μ.2.2.2.2.cells ∧ ns + μz.2.2.2.2.slots ≤ μ.2.2.2.2.slots) {k : Nat} (hk : k < 100) (hok : fp_Ok X μz (.ref k :: av) sh M P1)
    (kk : ∀ (r : Option Value) (sh' : List fp_C) (M' : fp_M), P1 r sh' M' → fp_W X μ (pc + 3) ls (r.toList ++ st) sh' M' (nc + μz.2.2.2.2.cells) (ns + μz.2.2.2.2.slots) Post) : fp_W X μ pc ls (av.reverse ++ .ref k :: st) sh M nc ns Post := by
  intro p l e s m args below meth c D cs cv base A Q H locs lsA hF hH hL hN hret
  have hpre := fp_pre hF hH (.ref k :: av)
  obtain ⟨hx, hb, hr, hml, hown, hts, hlk, hin, hK, hA, hcv, hR⟩ := id hF
  obtain ⟨m1, m2, m3, m4, m5, m6⟩ := hm
  have hrv : fp_v cv (.ref k) = .ref (base + k) := hcv.1 k hk
  have hlist : (Value.ref (base + k) :: av.map (fp_v cv)) = ((.ref k :: av).map (fp_v cv)) := by rw [List.map_cons, hrv]
  have hmet := hok l D cs cv base
  refine fp_back (va_runI (Ts := fp_tbl) (b := base + k) (bytes := μz.2.1) (maxL := μz.2.2.1) (ws := fp_ws μz) (rest := st.map (fp_v cv)) (As := av.map (fp_v cv)) (own := μ.1.cls) ⟨hx, hb, hml, hown, hts⟩ hmet ⟨callB_of n hts (fp_goodIn (fp_ws_in m4)) (by rw [← m6]) rfl rfl (hts _ m3) (hts _ hl) m5 hrm, m2, hts _ m1⟩ (by rw [hlist]; exact hpre) rfl (by rw [List.length_map]; exact hn) hL.1 ?_ (lv_room (by rw [fp_cats cv hcv.2]; exact hst)) hd hc) hH hA ?_
  · show List.map (fp_v cv) (av.reverse ++ .ref k :: st) = _
    rw [List.map_append, List.map_reverse, List.map_cons, hrv]
  · intro r sh' M' H' locs' hp hH'
    rw [fp_tail]
    exact kk r sh' M' hp p l e s m args below meth c D cs cv base A Q H' locs' lsA hF hH' hL hc hret
/-- a nest mate's private constructor -/
theorem fp_callIN (hd : decode μ.2.1 pc = .ok (.invokespecial idx, 3)) (hl : (μ.1.cls, idx, μz.1) ∈ fp_nest) (hm : fp_mI μz n) (hrm : fp_rm μ μz) (hn : av.length = n) (hst : (st.map fun v => v.category).sum ≤ 8) (hc : nc + μz.2.2.2.2.cells ≤ μ.2.2.2.2.cells ∧ ns + μz.2.2.2.2.slots ≤ μ.2.2.2.2.slots) {k : Nat} (hk : k < 100) (hok : fp_Ok X μz (.ref k :: av) sh M P1)
    (kk : ∀ (r : Option Value) (sh' : List fp_C) (M' : fp_M), P1 r sh' M' → fp_W X μ (pc + 3) ls (r.toList ++ st) sh' M' (nc + μz.2.2.2.2.cells) (ns + μz.2.2.2.2.slots) Post) : fp_W X μ pc ls (av.reverse ++ .ref k :: st) sh M nc ns Post := by
  intro p l e s m args below meth c D cs cv base A Q H locs lsA hF hH hL hN hret
  have hpre := fp_pre hF hH (.ref k :: av)
  obtain ⟨hx, hb, hr, hml, hown, hts, hlk, hin, hK, hA, hcv, hR⟩ := id hF
  obtain ⟨m1, m2, m3, m4, m5, m6⟩ := hm
  have hrv : fp_v cv (.ref k) = .ref (base + k) := hcv.1 k hk
  have hlist : (Value.ref (base + k) :: av.map (fp_v cv)) = ((.ref k :: av).map (fp_v cv)) := by rw [List.map_cons, hrv]
  have hmet := hok l D cs cv base
  refine fp_back (va_runIN (Ts := fp_tbl) (b := base + k) (host := "FarPost") (bytes := μz.2.1) (maxL := μz.2.2.1) (ws := fp_ws μz) (rest := st.map (fp_v cv)) (As := av.map (fp_v cv)) (own := μ.1.cls) ⟨hx, hb, hml, hown, hts⟩ hmet ⟨va_cnB n hts (fp_goodIn (fp_ws_in m4)) (by rw [← m6]) rfl rfl (hR.2.2.2.2.1 _ hl) (hts _ m3) m5 hrm, m2, hts _ m1⟩ (by rw [hlist]; exact hpre) rfl (by rw [List.length_map]; exact hn) hL.1 ?_ (lv_room (by rw [fp_cats cv hcv.2]; exact hst)) hd hc) hH hA ?_
  · show List.map (fp_v cv) (av.reverse ++ .ref k :: st) = _
    rw [List.map_append, List.map_reverse, List.map_cons, hrv]
  · intro r sh' M' H' locs' hp hH'
    rw [fp_tail]
    exact kk r sh' M' hp p l e s m args below meth c D cs cv base A Q H' locs' lsA hF hH' hL hc hret
end FPC
end
section
/-! ===== rows of the calculus, one an instruction ===== -/
theorem fp_e0 : Int32.ofInt 0 = 0 := by decide
/-- the locals behind a store -/
def fp_nl : Option Value → Bool
  | some (.long _) => false
  | some (.double _) => false
  | _ => true
theorem fp_nl_cat {v : Value} (h : fp_nl (some v) = true) : v.category = 1 := by
  cases v <;> first | rfl | cases h
/-- the listed locals, as the kit has them -/
def fp_lst (cv : Nat → Value) (ls : List (Option Value)) : List (Nat × Value) := ls.zipIdx.filterMap (fun q => q.1.map (fun v => (q.2, fp_v cv v)))
theorem fp_lst_mem {cv : Nat → Value} {ls : List (Option Value)} {q : Nat × Value} : q ∈ fp_lst cv ls ↔ ∃ v, ls[q.1]? = some (some v) ∧ q.2 = fp_v cv v := by
  unfold fp_lst
  rw [List.mem_filterMap]
  constructor
  · rintro ⟨⟨a, i⟩, h1, h2⟩
    have h3 := List.mem_zipIdx_iff_getElem?.mp h1
    cases a with
    | none => cases h2
    | some v =>
      have h4 : (i, fp_v cv v) = q := Option.some.inj h2
      subst h4
      exact ⟨v, h3, rfl⟩
  · rintro ⟨v, h1, h2⟩
    refine ⟨(some v, q.1), List.mem_zipIdx_iff_getElem?.mpr h1, ?_⟩
    show some (q.1, fp_v cv v) = some q
    rw [← h2]
theorem fp_L.has {cv : Nat → Value} {lsA : Array Slot} {nL : Nat} {ls : List (Option Value)} (h : fp_L cv lsA nL ls) : lv_has lsA nL (fp_lst cv ls) := by
  refine ⟨h.1, h.2.1, fun q hq => ?_⟩
  obtain ⟨v, h1, h2⟩ := fp_lst_mem.mp hq
  rw [h2]
  exact h.2.2.2 _ _ h1
/-- a store of one slot, at place i: the place ahead holds no long -/
theorem fp_L.store {cv : Nat → Value} (hc : ∀ k, (cv k).category = 1) {lsA ls' : Array Slot} {nL i : Nat} {ls : List (Option Value)} {v : Value} (h : fp_L cv lsA nL ls) (hp : ∀ j w, i = j + 1 → ls[j]? = some w → fp_nl w = true) (h' : lv_has ls' nL ((i, fp_v cv v) :: (fp_lst cv ls).filter (fun q => !(q.1 == i) && !(q.1 + 1 == i && q.2.category == 2)))) : fp_L cv ls' nL (ls.set i (some v)) := by
  refine ⟨h'.1, h'.2.1, by rw [List.length_set]; exact h.2.2.1, fun j w hw => ?_⟩
  rw [List.getElem?_set] at hw
  by_cases hij : i = j
  · subst hij
    rw [if_pos rfl] at hw
    by_cases hlt : i < ls.length
    · rw [if_pos hlt] at hw
      have e : v = w := Option.some.inj (Option.some.inj hw)
      subst e
      exact h'.2.2 (i, fp_v cv v) List.mem_cons_self
    · rw [if_neg hlt] at hw; cases hw
  · rw [if_neg hij] at hw
    refine h'.2.2 (j, fp_v cv w) (List.mem_cons_of_mem _ (List.mem_filter.mpr ⟨fp_lst_mem.mpr ⟨w, hw, rfl⟩, ?_⟩))
    have e1 : (j == i) = false := by rw [beq_eq_false_iff_ne]; exact fun e => hij e.symm
    rw [e1]
    show (!(j + 1 == i && (fp_v cv w).category == 2)) = true
    by_cases hji : j + 1 = i
    · have := fp_nl_cat (hp j (some w) hji.symm hw)
      rw [fp_cat cv hc, this]
      simp
    · simp [hji]
theorem fp_L.store2 {cv : Nat → Value} (hc : ∀ k, (cv k).category = 1) {lsA ls' : Array Slot} {nL i : Nat} {ls : List (Option Value)} {v : Int64} (h : fp_L cv lsA nL ls) (hp : ∀ j w, i = j + 1 → ls[j]? = some w → fp_nl w = true) (h' : lv_has ls' nL ((i, .long v) :: (fp_lst cv ls).filter (fun q => !(q.1 == i) && (!(q.1 == i + 1) && !(q.1 + 1 == i && q.2.category == 2))))) : fp_L cv ls' nL ((ls.set i (some (.long v))).set (i + 1) none) := by
  refine ⟨h'.1, h'.2.1, by rw [List.length_set, List.length_set]; exact h.2.2.1, fun j w hw => ?_⟩
  rw [List.getElem?_set, List.getElem?_set, List.length_set] at hw
  by_cases hij1 : i + 1 = j
  · rw [if_pos hij1] at hw
    by_cases hlt : i + 1 < ls.length
    · rw [if_pos hlt] at hw; cases hw
    · rw [if_neg hlt] at hw; cases hw
  · rw [if_neg hij1] at hw
    by_cases hij : i = j
    · subst hij
      rw [if_pos rfl] at hw
      by_cases hlt : i < ls.length
      · rw [if_pos hlt] at hw
        have e : Value.long v = w := Option.some.inj (Option.some.inj hw)
        subst e
        exact h'.2.2 (i, .long v) List.mem_cons_self
      · rw [if_neg hlt] at hw; cases hw
    · rw [if_neg hij] at hw
      refine h'.2.2 (j, fp_v cv w) (List.mem_cons_of_mem _ (List.mem_filter.mpr ⟨fp_lst_mem.mpr ⟨w, hw, rfl⟩, ?_⟩))
      have e1 : (j == i) = false := by rw [beq_eq_false_iff_ne]; exact fun e => hij e.symm
      have e2 : (j == i + 1) = false := by rw [beq_eq_false_iff_ne]; exact fun e => hij1 e.symm
      rw [e1, e2]
      show (!(j + 1 == i && (fp_v cv w).category == 2)) = true
      by_cases hji : j + 1 = i
      · have := fp_nl_cat (hp j (some w) hji.symm hw)
        rw [fp_cat cv hc, this]
        simp
      · simp [hji]
theorem fp_hp {ls : List (Option Value)} {i n : Nat} {a : Option Value} (hn : i = n + 1) (h : ls[n]? = some a) (ha : fp_nl a = true) : ∀ j w, i = j + 1 → ls[j]? = some w → fp_nl w = true := by
  intro j w e h2
  have e1 : j = n := by omega
  subst e1
  have e2 : a = w := Option.some.inj (h.symm.trans h2)
  rw [← e2]
  exact ha
section FPR
variable {X : fp_X} {μ : fp_Y} {pc : Nat} {ls : List (Option Value)} {st : List Value} {sh : List fp_C} {M : fp_M} {nc ns : Nat} {Post : fp_Q}
theorem r_iadd {x y : Int32} (hd : decode μ.2.1 pc = .ok (.iadd, 1))  (k : fp_W X μ (pc + 1) ls (.int (x + y) :: st) sh M nc ns Post) : fp_W X μ pc ls (.int y :: .int x :: st) sh M nc ns Post := by
  intro p l e s m args below meth c D cs cv base A Q H locs lsA hF hH hL hN hret
  exact lv_iadd hF.1 hF.2.1 hd  (k p l e s m args below meth c D cs cv base A Q H locs lsA hF hH hL hN hret)
theorem r_isub {x y : Int32} (hd : decode μ.2.1 pc = .ok (.isub, 1))  (k : fp_W X μ (pc + 1) ls (.int (x - y) :: st) sh M nc ns Post) : fp_W X μ pc ls (.int y :: .int x :: st) sh M nc ns Post := by
  intro p l e s m args below meth c D cs cv base A Q H locs lsA hF hH hL hN hret
  exact lv_isub hF.1 hF.2.1 hd  (k p l e s m args below meth c D cs cv base A Q H locs lsA hF hH hL hN hret)
theorem r_imul {x y : Int32} (hd : decode μ.2.1 pc = .ok (.imul, 1))  (k : fp_W X μ (pc + 1) ls (.int (x * y) :: st) sh M nc ns Post) : fp_W X μ pc ls (.int y :: .int x :: st) sh M nc ns Post := by
  intro p l e s m args below meth c D cs cv base A Q H locs lsA hF hH hL hN hret
  exact lv_imul hF.1 hF.2.1 hd  (k p l e s m args below meth c D cs cv base A Q H locs lsA hF hH hL hN hret)
theorem r_iand {x y : Int32} (hd : decode μ.2.1 pc = .ok (.iand, 1))  (k : fp_W X μ (pc + 1) ls (.int (x &&& y) :: st) sh M nc ns Post) : fp_W X μ pc ls (.int y :: .int x :: st) sh M nc ns Post := by
  intro p l e s m args below meth c D cs cv base A Q H locs lsA hF hH hL hN hret
  exact lv_iand hF.1 hF.2.1 hd  (k p l e s m args below meth c D cs cv base A Q H locs lsA hF hH hL hN hret)
theorem r_ior {x y : Int32} (hd : decode μ.2.1 pc = .ok (.ior, 1))  (k : fp_W X μ (pc + 1) ls (.int (x ||| y) :: st) sh M nc ns Post) : fp_W X μ pc ls (.int y :: .int x :: st) sh M nc ns Post := by
  intro p l e s m args below meth c D cs cv base A Q H locs lsA hF hH hL hN hret
  exact lv_ior hF.1 hF.2.1 hd  (k p l e s m args below meth c D cs cv base A Q H locs lsA hF hH hL hN hret)
theorem r_ixor {x y : Int32} (hd : decode μ.2.1 pc = .ok (.ixor, 1))  (k : fp_W X μ (pc + 1) ls (.int (x ^^^ y) :: st) sh M nc ns Post) : fp_W X μ pc ls (.int y :: .int x :: st) sh M nc ns Post := by
  intro p l e s m args below meth c D cs cv base A Q H locs lsA hF hH hL hN hret
  exact lv_ixor hF.1 hF.2.1 hd  (k p l e s m args below meth c D cs cv base A Q H locs lsA hF hH hL hN hret)
theorem r_ishl {x y : Int32} (hd : decode μ.2.1 pc = .ok (.ishl, 1))  (k : fp_W X μ (pc + 1) ls (.int (x <<< (y &&& 31)) :: st) sh M nc ns Post) : fp_W X μ pc ls (.int y :: .int x :: st) sh M nc ns Post := by
  intro p l e s m args below meth c D cs cv base A Q H locs lsA hF hH hL hN hret
  exact lv_ishl hF.1 hF.2.1 hd  (k p l e s m args below meth c D cs cv base A Q H locs lsA hF hH hL hN hret)
theorem r_ishr {x y : Int32} (hd : decode μ.2.1 pc = .ok (.ishr, 1))  (k : fp_W X μ (pc + 1) ls (.int (x >>> (y &&& 31)) :: st) sh M nc ns Post) : fp_W X μ pc ls (.int y :: .int x :: st) sh M nc ns Post := by
  intro p l e s m args below meth c D cs cv base A Q H locs lsA hF hH hL hN hret
  exact lv_ishr hF.1 hF.2.1 hd  (k p l e s m args below meth c D cs cv base A Q H locs lsA hF hH hL hN hret)
theorem r_idiv {x y : Int32} (hd : decode μ.2.1 pc = .ok (.idiv, 1)) (hne : ¬ y = 0) (k : fp_W X μ (pc + 1) ls (.int (x / y) :: st) sh M nc ns Post) : fp_W X μ pc ls (.int y :: .int x :: st) sh M nc ns Post := by
  intro p l e s m args below meth c D cs cv base A Q H locs lsA hF hH hL hN hret
  exact lv_idiv hF.1 hF.2.1 hd hne (k p l e s m args below meth c D cs cv base A Q H locs lsA hF hH hL hN hret)
theorem r_irem {x y : Int32} (hd : decode μ.2.1 pc = .ok (.irem, 1)) (hne : ¬ y = 0) (k : fp_W X μ (pc + 1) ls (.int (x - x / y * y) :: st) sh M nc ns Post) : fp_W X μ pc ls (.int y :: .int x :: st) sh M nc ns Post := by
  intro p l e s m args below meth c D cs cv base A Q H locs lsA hF hH hL hN hret
  exact lv_irem hF.1 hF.2.1 hd hne (k p l e s m args below meth c D cs cv base A Q H locs lsA hF hH hL hN hret)
theorem r_iushr {x y : Int32} (hd : decode μ.2.1 pc = .ok (.iushr, 1))  (k : fp_W X μ (pc + 1) ls (.int (x.toUInt32 >>> (y.toUInt32 &&& Int32.toUInt32 31)).toInt32 :: st) sh M nc ns Post) : fp_W X μ pc ls (.int y :: .int x :: st) sh M nc ns Post := by
  intro p l e s m args below meth c D cs cv base A Q H locs lsA hF hH hL hN hret
  exact lv_iushr hF.1 hF.2.1 hd rfl (k p l e s m args below meth c D cs cv base A Q H locs lsA hF hH hL hN hret)
theorem r_ineg {x : Int32} (hd : decode μ.2.1 pc = .ok (.ineg, 1))  (k : fp_W X μ (pc + 1) ls (.int (-x) :: st) sh M nc ns Post) : fp_W X μ pc ls (.int x :: st) sh M nc ns Post := by
  intro p l e s m args below meth c D cs cv base A Q H locs lsA hF hH hL hN hret
  exact lv_ineg hF.1 hF.2.1 hd  (k p l e s m args below meth c D cs cv base A Q H locs lsA hF hH hL hN hret)
theorem r_ladd {x y : Int64} (hd : decode μ.2.1 pc = .ok (.ladd, 1))  (k : fp_W X μ (pc + 1) ls (.long (x + y) :: st) sh M nc ns Post) : fp_W X μ pc ls (.long y :: .long x :: st) sh M nc ns Post := by
  intro p l e s m args below meth c D cs cv base A Q H locs lsA hF hH hL hN hret
  exact lv_ladd hF.1 hF.2.1 hd  (k p l e s m args below meth c D cs cv base A Q H locs lsA hF hH hL hN hret)
theorem r_lsub {x y : Int64} (hd : decode μ.2.1 pc = .ok (.lsub, 1))  (k : fp_W X μ (pc + 1) ls (.long (x - y) :: st) sh M nc ns Post) : fp_W X μ pc ls (.long y :: .long x :: st) sh M nc ns Post := by
  intro p l e s m args below meth c D cs cv base A Q H locs lsA hF hH hL hN hret
  exact lv_lsub hF.1 hF.2.1 hd  (k p l e s m args below meth c D cs cv base A Q H locs lsA hF hH hL hN hret)
theorem r_lmul {x y : Int64} (hd : decode μ.2.1 pc = .ok (.lmul, 1))  (k : fp_W X μ (pc + 1) ls (.long (x * y) :: st) sh M nc ns Post) : fp_W X μ pc ls (.long y :: .long x :: st) sh M nc ns Post := by
  intro p l e s m args below meth c D cs cv base A Q H locs lsA hF hH hL hN hret
  exact lv_lmul hF.1 hF.2.1 hd  (k p l e s m args below meth c D cs cv base A Q H locs lsA hF hH hL hN hret)
theorem r_ldiv {x y : Int64} (hd : decode μ.2.1 pc = .ok (.ldiv, 1)) (hne : ¬ y = 0) (k : fp_W X μ (pc + 1) ls (.long (x / y) :: st) sh M nc ns Post) : fp_W X μ pc ls (.long y :: .long x :: st) sh M nc ns Post := by
  intro p l e s m args below meth c D cs cv base A Q H locs lsA hF hH hL hN hret
  exact lv_ldiv hF.1 hF.2.1 hd hne (k p l e s m args below meth c D cs cv base A Q H locs lsA hF hH hL hN hret)
theorem r_lrem {x y : Int64} (hd : decode μ.2.1 pc = .ok (.lrem, 1)) (hne : ¬ y = 0) (k : fp_W X μ (pc + 1) ls (.long (x - x / y * y) :: st) sh M nc ns Post) : fp_W X μ pc ls (.long y :: .long x :: st) sh M nc ns Post := by
  intro p l e s m args below meth c D cs cv base A Q H locs lsA hF hH hL hN hret
  exact lv_lrem hF.1 hF.2.1 hd hne (k p l e s m args below meth c D cs cv base A Q H locs lsA hF hH hL hN hret)
theorem r_lneg {x : Int64} (hd : decode μ.2.1 pc = .ok (.lneg, 1))  (k : fp_W X μ (pc + 1) ls (.long (-x) :: st) sh M nc ns Post) : fp_W X μ pc ls (.long x :: st) sh M nc ns Post := by
  intro p l e s m args below meth c D cs cv base A Q H locs lsA hF hH hL hN hret
  exact lv_lneg hF.1 hF.2.1 hd  (k p l e s m args below meth c D cs cv base A Q H locs lsA hF hH hL hN hret)
theorem r_lcmp {x y : Int64} (hd : decode μ.2.1 pc = .ok (.lcmp, 1))  (k : fp_W X μ (pc + 1) ls (.int (lg_cmp x y) :: st) sh M nc ns Post) : fp_W X μ pc ls (.long y :: .long x :: st) sh M nc ns Post := by
  intro p l e s m args below meth c D cs cv base A Q H locs lsA hF hH hL hN hret
  exact W.lcmp hF.1 hF.2.1 hd  (k p l e s m args below meth c D cs cv base A Q H locs lsA hF hH hL hN hret)
theorem r_i2l {x : Int32} (hd : decode μ.2.1 pc = .ok (.i2l, 1))  (k : fp_W X μ (pc + 1) ls (.long x.toInt64 :: st) sh M nc ns Post) : fp_W X μ pc ls (.int x :: st) sh M nc ns Post := by
  intro p l e s m args below meth c D cs cv base A Q H locs lsA hF hH hL hN hret
  exact lv_i2l hF.1 hF.2.1 hd rfl (k p l e s m args below meth c D cs cv base A Q H locs lsA hF hH hL hN hret)
theorem r_l2i {x : Int64} (hd : decode μ.2.1 pc = .ok (.l2i, 1))  (k : fp_W X μ (pc + 1) ls (.int x.toInt32 :: st) sh M nc ns Post) : fp_W X μ pc ls (.long x :: st) sh M nc ns Post := by
  intro p l e s m args below meth c D cs cv base A Q H locs lsA hF hH hL hN hret
  exact lv_l2i hF.1 hF.2.1 hd rfl (k p l e s m args below meth c D cs cv base A Q H locs lsA hF hH hL hN hret)
theorem r_i2b {x : Int32} (hd : decode μ.2.1 pc = .ok (.i2b, 1))  (k : fp_W X μ (pc + 1) ls (.int x.toInt8.toInt32 :: st) sh M nc ns Post) : fp_W X μ pc ls (.int x :: st) sh M nc ns Post := by
  intro p l e s m args below meth c D cs cv base A Q H locs lsA hF hH hL hN hret
  exact lv_i2b hF.1 hF.2.1 hd rfl (k p l e s m args below meth c D cs cv base A Q H locs lsA hF hH hL hN hret)
theorem r_i2s {x : Int32} (hd : decode μ.2.1 pc = .ok (.i2s, 1))  (k : fp_W X μ (pc + 1) ls (.int x.toInt16.toInt32 :: st) sh M nc ns Post) : fp_W X μ pc ls (.int x :: st) sh M nc ns Post := by
  intro p l e s m args below meth c D cs cv base A Q H locs lsA hF hH hL hN hret
  exact lv_i2s hF.1 hF.2.1 hd rfl (k p l e s m args below meth c D cs cv base A Q H locs lsA hF hH hL hN hret)
theorem r_i2c {x : Int32} (hd : decode μ.2.1 pc = .ok (.i2c, 1))  (k : fp_W X μ (pc + 1) ls (.int (x.toUInt32 % 65536).toInt32 :: st) sh M nc ns Post) : fp_W X μ pc ls (.int x :: st) sh M nc ns Post := by
  intro p l e s m args below meth c D cs cv base A Q H locs lsA hF hH hL hN hret
  exact lv_i2c hF.1 hF.2.1 hd rfl (k p l e s m args below meth c D cs cv base A Q H locs lsA hF hH hL hN hret)
theorem r_iconst {i : Int} (v : Int32) (hd : decode μ.2.1 pc = .ok (.iconst i, 1)) (hv : Int32.ofInt i = v := by decide) (k : fp_W X μ (pc + 1) ls (.int v :: st) sh M nc ns Post) : fp_W X μ pc ls (st) sh M nc ns Post := by
  intro p l e s m args below meth c D cs cv base A Q H locs lsA hF hH hL hN hret
  exact lv_iconst hF.1 hF.2.1 hd hv (k p l e s m args below meth c D cs cv base A Q H locs lsA hF hH hL hN hret)
theorem r_bipush {i : Int} (v : Int32) (hd : decode μ.2.1 pc = .ok (.bipush i, 2)) (hv : (Int8.ofInt i).toInt32 = v := by decide) (k : fp_W X μ (pc + 2) ls (.int v :: st) sh M nc ns Post) : fp_W X μ pc ls (st) sh M nc ns Post := by
  intro p l e s m args below meth c D cs cv base A Q H locs lsA hF hH hL hN hret
  exact lv_bipush hF.1 hF.2.1 hd hv (k p l e s m args below meth c D cs cv base A Q H locs lsA hF hH hL hN hret)
theorem r_sipush {i : Int} (v : Int32) (hd : decode μ.2.1 pc = .ok (.sipush i, 3)) (hv : (Int16.ofInt i).toInt32 = v := by decide) (k : fp_W X μ (pc + 3) ls (.int v :: st) sh M nc ns Post) : fp_W X μ pc ls (st) sh M nc ns Post := by
  intro p l e s m args below meth c D cs cv base A Q H locs lsA hF hH hL hN hret
  exact lv_sipush hF.1 hF.2.1 hd hv (k p l e s m args below meth c D cs cv base A Q H locs lsA hF hH hL hN hret)
theorem r_lconst {i : Fin 2} (v : Int64) (hd : decode μ.2.1 pc = .ok (.lconst i, 1)) (hv : Int64.ofNat (i : Nat) = v := by decide) (k : fp_W X μ (pc + 1) ls (.long v :: st) sh M nc ns Post) : fp_W X μ pc ls (st) sh M nc ns Post := by
  intro p l e s m args below meth c D cs cv base A Q H locs lsA hF hH hL hN hret
  exact lv_lconst hF.1 hF.2.1 hd hv (k p l e s m args below meth c D cs cv base A Q H locs lsA hF hH hL hN hret)
theorem r_ldc {i : Nat} {v : Int32} (hd : decode μ.2.1 pc = .ok (.ldc i, 2)) (hw : Cond.constant μ.1.cls i v ∈ fp_tbl) (k : fp_W X μ (pc + 2) ls (.int v :: st) sh M nc ns Post) : fp_W X μ pc ls st sh M nc ns Post := by
  intro p l e s m args below meth c D cs cv base A Q H locs lsA hF hH hL hN hret
  exact lv_ldc hF.1 hF.2.1 hF.2.2.2.2.1 (hF.2.2.2.2.2.1 _ hw) hd (k p l e s m args below meth c D cs cv base A Q H locs lsA hF hH hL hN hret)
theorem r_ldcw {i : Nat} {v : Int32} (hd : decode μ.2.1 pc = .ok (.ldc_w i, 3)) (hw : Cond.constant μ.1.cls i v ∈ fp_tbl) (k : fp_W X μ (pc + 3) ls (.int v :: st) sh M nc ns Post) : fp_W X μ pc ls st sh M nc ns Post := by
  intro p l e s m args below meth c D cs cv base A Q H locs lsA hF hH hL hN hret
  exact lv_ldcw hF.1 hF.2.1 hF.2.2.2.2.1 (hF.2.2.2.2.2.1 _ hw) hd (k p l e s m args below meth c D cs cv base A Q H locs lsA hF hH hL hN hret)
theorem r_ldc2 {i : Nat} {v : Int64} (hd : decode μ.2.1 pc = .ok (.ldc2_w i, 3)) (hw : Cond.constantLong μ.1.cls i v ∈ fp_tbl) (k : fp_W X μ (pc + 3) ls (.long v :: st) sh M nc ns Post) : fp_W X μ pc ls st sh M nc ns Post := by
  intro p l e s m args below meth c D cs cv base A Q H locs lsA hF hH hL hN hret
  exact lv_ldc2 hF.1 hF.2.1 hF.2.2.2.2.1 (hF.2.2.2.2.2.1 _ hw) hd (k p l e s m args below meth c D cs cv base A Q H locs lsA hF hH hL hN hret)
theorem r_iload {i : Nat} {x : Int32} (hd : decode μ.2.1 pc = .ok (.iload i, 2)) (hl : ls[i]? = some (some (.int x))) (k : fp_W X μ (pc + 2) ls (.int x :: st) sh M nc ns Post) : fp_W X μ pc ls st sh M nc ns Post := by
  intro p l e s m args below meth c D cs cv base A Q H locs lsA hF hH hL hN hret
  exact lv_iload hF.1 hF.2.1 hd (hL.2.2.2 _ _ hl) (k p l e s m args below meth c D cs cv base A Q H locs lsA hF hH hL hN hret)
theorem r_iloadn {q : Fin 4} {x : Int32} (hd : decode μ.2.1 pc = .ok (.iload_n q, 1)) (hl : ls[(q : Nat)]? = some (some (.int x))) (k : fp_W X μ (pc + 1) ls (.int x :: st) sh M nc ns Post) : fp_W X μ pc ls st sh M nc ns Post := by
  intro p l e s m args below meth c D cs cv base A Q H locs lsA hF hH hL hN hret
  exact lv_iload_n hF.1 hF.2.1 hd rfl (hL.2.2.2 _ _ hl) (k p l e s m args below meth c D cs cv base A Q H locs lsA hF hH hL hN hret)
theorem r_lload {i : Nat} {x : Int64} (hd : decode μ.2.1 pc = .ok (.lload i, 2)) (hl : ls[i]? = some (some (.long x))) (k : fp_W X μ (pc + 2) ls (.long x :: st) sh M nc ns Post) : fp_W X μ pc ls st sh M nc ns Post := by
  intro p l e s m args below meth c D cs cv base A Q H locs lsA hF hH hL hN hret
  exact lv_lload hF.1 hF.2.1 hd (hL.2.2.2 _ _ hl) (k p l e s m args below meth c D cs cv base A Q H locs lsA hF hH hL hN hret)
theorem r_lloadn {q : Fin 4} {x : Int64} (hd : decode μ.2.1 pc = .ok (.lload_n q, 1)) (hl : ls[(q : Nat)]? = some (some (.long x))) (k : fp_W X μ (pc + 1) ls (.long x :: st) sh M nc ns Post) : fp_W X μ pc ls st sh M nc ns Post := by
  intro p l e s m args below meth c D cs cv base A Q H locs lsA hF hH hL hN hret
  exact lv_lload_n hF.1 hF.2.1 hd rfl (hL.2.2.2 _ _ hl) (k p l e s m args below meth c D cs cv base A Q H locs lsA hF hH hL hN hret)
theorem fp_isref {cv : Nat → Value} {base : Nat} {A : Nat → Prop} {s : State} {H : Heap} (hcv : ∀ k, k < 100 → cv k = .ref (base + k)) (hR : fp_R X cv A s H) {k : Nat} (hk : k < 132 ∧ ¬ (112 ≤ k ∧ k < 120) ∨ k = 150) : ∃ a, cv k = .ref a := by
  obtain ⟨-, -, ⟨adK, adV, -, had, -⟩, ⟨b, hb, -⟩, -⟩ := hR
  by_cases h1 : k < 100
  · exact ⟨_, hcv k h1⟩
  · by_cases h2 : k < 112
    · refine ⟨adK (k - 100), ?_⟩
      have := (had (k - 100) (by omega)).1
      rwa [show 100 + (k - 100) = k by omega] at this
    · by_cases h3 : k < 132
      · refine ⟨adV (k - 120), ?_⟩
        have := (had (k - 120) (by omega)).2
        rwa [show 120 + (k - 120) = k by omega] at this
      · exact ⟨b, by rw [show k = 150 by omega]; exact hb⟩
theorem r_aload {i k : Nat} (hd : decode μ.2.1 pc = .ok (.aload i, 2)) (hl : ls[i]? = some (some (.ref k))) (hk : k < 132 ∧ ¬ (112 ≤ k ∧ k < 120) ∨ k = 150) (g : fp_W X μ (pc + 2) ls (.ref k :: st) sh M nc ns Post) : fp_W X μ pc ls st sh M nc ns Post := by
  intro p l e s m args below meth c D cs cv base A Q H locs lsA hF hH hL hN hret
  obtain ⟨a, ha⟩ := fp_isref hF.2.2.2.2.2.2.2.2.2.2.1.1 hF.2.2.2.2.2.2.2.2.2.2.2 hk
  have h1 := hL.2.2.2 _ _ hl
  have ev : fp_v cv (.ref k) = .ref a := ha
  rw [ev] at h1
  refine lv_aload hF.1 hF.2.1 hd h1 ?_
  have h2 := g p l e s m args below meth c D cs cv base A Q H locs lsA hF hH hL hN hret
  rw [List.map_cons, ev] at h2
  exact h2
theorem r_aloadn {q : Fin 4} {k : Nat} (hd : decode μ.2.1 pc = .ok (.aload_n q, 1)) (hl : ls[(q : Nat)]? = some (some (.ref k))) (hk : k < 132 ∧ ¬ (112 ≤ k ∧ k < 120) ∨ k = 150) (g : fp_W X μ (pc + 1) ls (.ref k :: st) sh M nc ns Post) : fp_W X μ pc ls st sh M nc ns Post := by
  intro p l e s m args below meth c D cs cv base A Q H locs lsA hF hH hL hN hret
  obtain ⟨a, ha⟩ := fp_isref hF.2.2.2.2.2.2.2.2.2.2.1.1 hF.2.2.2.2.2.2.2.2.2.2.2 hk
  have h1 := hL.2.2.2 _ _ hl
  have ev : fp_v cv (.ref k) = .ref a := ha
  rw [ev] at h1
  refine lv_aload_n hF.1 hF.2.1 hd rfl h1 ?_
  have h2 := g p l e s m args below meth c D cs cv base A Q H locs lsA hF hH hL hN hret
  rw [List.map_cons, ev] at h2
  exact h2
theorem r_istoreG {i : Nat} {x : Int32} (hd : decode μ.2.1 pc = .ok (.istore i, 2)) (hi : i < ls.length) (hp : ∀ j w, i = j + 1 → ls[j]? = some w → fp_nl w = true) (k : fp_W X μ (pc + 2) (ls.set i (some (.int x))) st sh M nc ns Post) : fp_W X μ pc ls (.int x :: st) sh M nc ns Post := by
  intro p l e s m args below meth c D cs cv base A Q H locs lsA hF hH hL hN hret
  exact lv_istore hF.1 hF.2.1 hd hL.has (by rw [← hL.2.2.1]; exact hi) rfl (fun ls' h' => k p l e s m args below meth c D cs cv base A Q H locs ls' hF hH (hL.store (v := .int x) hF.2.2.2.2.2.2.2.2.2.2.1.2 hp h') hN hret)
theorem r_istoreGn {q : Fin 4} {x : Int32} (hd : decode μ.2.1 pc = .ok (.istore_n q, 1)) (hi : (q : Nat) < ls.length) (hp : ∀ j w, (q : Nat) = j + 1 → ls[j]? = some w → fp_nl w = true) (k : fp_W X μ (pc + 1) (ls.set q (some (.int x))) st sh M nc ns Post) : fp_W X μ pc ls (.int x :: st) sh M nc ns Post := by
  intro p l e s m args below meth c D cs cv base A Q H locs lsA hF hH hL hN hret
  exact lv_istore_n hF.1 hF.2.1 hd rfl hL.has (by rw [← hL.2.2.1]; exact hi) rfl (fun ls' h' => k p l e s m args below meth c D cs cv base A Q H locs ls' hF hH (hL.store (v := .int x) hF.2.2.2.2.2.2.2.2.2.2.1.2 hp h') hN hret)
theorem r_lstoreG {i : Nat} {x : Int64} (hd : decode μ.2.1 pc = .ok (.lstore i, 2)) (hi : i + 1 < ls.length) (hp : ∀ j w, i = j + 1 → ls[j]? = some w → fp_nl w = true) (k : fp_W X μ (pc + 2) ((ls.set i (some (.long x))).set (i + 1) none) st sh M nc ns Post) : fp_W X μ pc ls (.long x :: st) sh M nc ns Post := by
  intro p l e s m args below meth c D cs cv base A Q H locs lsA hF hH hL hN hret
  exact lv_lstore hF.1 hF.2.1 hd hL.has (by rw [← hL.2.2.1]; exact hi) rfl (fun ls' h' => k p l e s m args below meth c D cs cv base A Q H locs ls' hF hH (hL.store2 hF.2.2.2.2.2.2.2.2.2.2.1.2 hp h') hN hret)
theorem r_lstoreGn {q : Fin 4} {x : Int64} (hd : decode μ.2.1 pc = .ok (.lstore_n q, 1)) (hi : (q : Nat) + 1 < ls.length) (hp : ∀ j w, (q : Nat) = j + 1 → ls[j]? = some w → fp_nl w = true) (k : fp_W X μ (pc + 1) ((ls.set q (some (.long x))).set ((q : Nat) + 1) none) st sh M nc ns Post) : fp_W X μ pc ls (.long x :: st) sh M nc ns Post := by
  intro p l e s m args below meth c D cs cv base A Q H locs lsA hF hH hL hN hret
  exact lv_lstore_n hF.1 hF.2.1 hd rfl hL.has (by rw [← hL.2.2.1]; exact hi) rfl (fun ls' h' => k p l e s m args below meth c D cs cv base A Q H locs ls' hF hH (hL.store2 hF.2.2.2.2.2.2.2.2.2.2.1.2 hp h') hN hret)
theorem r_astoreG {i r : Nat} (hd : decode μ.2.1 pc = .ok (.astore i, 2)) (hi : i < ls.length) (hp : ∀ j w, i = j + 1 → ls[j]? = some w → fp_nl w = true) (hk : r < 132 ∧ ¬ (112 ≤ r ∧ r < 120) ∨ r = 150) (k : fp_W X μ (pc + 2) (ls.set i (some (.ref r))) st sh M nc ns Post) : fp_W X μ pc ls (.ref r :: st) sh M nc ns Post := by
  intro p l e s m args below meth c D cs cv base A Q H locs lsA hF hH hL hN hret
  obtain ⟨a, ha⟩ := fp_isref hF.2.2.2.2.2.2.2.2.2.2.1.1 hF.2.2.2.2.2.2.2.2.2.2.2 hk
  have ev : fp_v cv (.ref r) = .ref a := ha
  rw [List.map_cons, ev]
  exact lv_astore hF.1 hF.2.1 hd hL.has (by rw [← hL.2.2.1]; exact hi) rfl (fun ls' h' => k p l e s m args below meth c D cs cv base A Q H locs ls' hF hH (hL.store (v := .ref r) hF.2.2.2.2.2.2.2.2.2.2.1.2 hp (by rw [ev]; exact h')) hN hret)
theorem r_astoreGn {q : Fin 4} {r : Nat} (hd : decode μ.2.1 pc = .ok (.astore_n q, 1)) (hi : (q : Nat) < ls.length) (hp : ∀ j w, (q : Nat) = j + 1 → ls[j]? = some w → fp_nl w = true) (hk : r < 132 ∧ ¬ (112 ≤ r ∧ r < 120) ∨ r = 150) (k : fp_W X μ (pc + 1) (ls.set (q : Nat) (some (.ref r))) st sh M nc ns Post) : fp_W X μ pc ls (.ref r :: st) sh M nc ns Post := by
  intro p l e s m args below meth c D cs cv base A Q H locs lsA hF hH hL hN hret
  obtain ⟨a, ha⟩ := fp_isref hF.2.2.2.2.2.2.2.2.2.2.1.1 hF.2.2.2.2.2.2.2.2.2.2.2 hk
  have ev : fp_v cv (.ref r) = .ref a := ha
  rw [List.map_cons, ev]
  exact lv_astore_n hF.1 hF.2.1 hd rfl hL.has (by rw [← hL.2.2.1]; exact hi) rfl (fun ls' h' => k p l e s m args below meth c D cs cv base A Q H locs ls' hF hH (hL.store (v := .ref r) hF.2.2.2.2.2.2.2.2.2.2.1.2 hp (by rw [ev]; exact h')) hN hret)
theorem r_iincG {i : Nat} {n : Int} {x v : Int32} (hd : decode μ.2.1 pc = .ok (.iinc i n, 3)) (hl : ls[i]? = some (some (.int x))) (hv : x + Int32.ofInt n = v) (hp : ∀ j w, i = j + 1 → ls[j]? = some w → fp_nl w = true) (k : fp_W X μ (pc + 3) (ls.set i (some (.int v))) st sh M nc ns Post) : fp_W X μ pc ls st sh M nc ns Post := by
  intro p l e s m args below meth c D cs cv base A Q H locs lsA hF hH hL hN hret
  have hm : (i, Value.int x) ∈ fp_lst cv ls := fp_lst_mem.mpr ⟨.int x, hl, rfl⟩
  obtain ⟨j, hj⟩ := List.getElem?_of_mem hm
  exact lv_iinc hF.1 hF.2.1 hd hL.has hj hv (by rw [← hL.2.2.1]; exact (List.getElem?_eq_some_iff.mp hl).1) rfl (fun ls' h' => k p l e s m args below meth c D cs cv base A Q H locs ls' hF hH (hL.store (v := .int v) hF.2.2.2.2.2.2.2.2.2.2.1.2 hp h') hN hret)
theorem r_istore0 {z : Option Value} {t : List (Option Value)} {x : Int32} (hd : decode μ.2.1 pc = .ok (.istore_n 0, 1)) (k : fp_W X μ (pc + 1) (some (.int x) :: t) st sh M nc ns Post) : fp_W X μ pc (z :: t) (.int x :: st) sh M nc ns Post := r_istoreGn hd (by show 0 < _; simp; try omega) (fun j w e h => absurd e (by omega))  k
theorem r_astore0 {z : Option Value} {t : List (Option Value)} {r : Nat} (hd : decode μ.2.1 pc = .ok (.astore_n 0, 1)) (hk : r < 132 ∧ ¬ (112 ≤ r ∧ r < 120) ∨ r = 150) (k : fp_W X μ (pc + 1) (some (.ref r) :: t) st sh M nc ns Post) : fp_W X μ pc (z :: t) (.ref r :: st) sh M nc ns Post := r_astoreGn hd (by show 0 < _; simp; try omega) (fun j w e h => absurd e (by omega)) hk k
theorem r_lstore0 {z z' : Option Value} {t : List (Option Value)} {x : Int64} (hd : decode μ.2.1 pc = .ok (.lstore_n 0, 1)) (k : fp_W X μ (pc + 1) (some (.long x) :: none :: t) st sh M nc ns Post) : fp_W X μ pc (z :: z' :: t) (.long x :: st) sh M nc ns Post := r_lstoreGn hd (by show 0 + 1 < _; simp; try omega) (fun j w e h => absurd e (by omega)) k
theorem r_iinc0 {t : List (Option Value)} {x : Int32} {i : Int} (d : Int32) (hd : decode μ.2.1 pc = .ok (.iinc 0 i, 3)) (k : fp_W X μ (pc + 3) (some (.int (x + d)) :: t) st sh M nc ns Post) (hv : Int32.ofInt i = d := by decide) : fp_W X μ pc (some (.int x) :: t) st sh M nc ns Post := r_iincG hd rfl (by rw [hv]) (fun j w e h => absurd e (by omega)) k
theorem r_istore1 {a0 : Option Value} {z : Option Value} {t : List (Option Value)} {x : Int32} (hd : decode μ.2.1 pc = .ok (.istore_n 1, 1)) (k : fp_W X μ (pc + 1) (a0 :: some (.int x) :: t) st sh M nc ns Post) (ha : fp_nl a0 = true := by rfl) : fp_W X μ pc (a0 :: z :: t) (.int x :: st) sh M nc ns Post := r_istoreGn hd (by show 1 < _; simp; try omega) (fp_hp (n := 0) (a := a0) rfl rfl ha)  k
theorem r_astore1 {a0 : Option Value} {z : Option Value} {t : List (Option Value)} {r : Nat} (hd : decode μ.2.1 pc = .ok (.astore_n 1, 1)) (hk : r < 132 ∧ ¬ (112 ≤ r ∧ r < 120) ∨ r = 150) (k : fp_W X μ (pc + 1) (a0 :: some (.ref r) :: t) st sh M nc ns Post) (ha : fp_nl a0 = true := by rfl) : fp_W X μ pc (a0 :: z :: t) (.ref r :: st) sh M nc ns Post := r_astoreGn hd (by show 1 < _; simp; try omega) (fp_hp (n := 0) (a := a0) rfl rfl ha) hk k
theorem r_lstore1 {a0 : Option Value} {z z' : Option Value} {t : List (Option Value)} {x : Int64} (hd : decode μ.2.1 pc = .ok (.lstore_n 1, 1)) (k : fp_W X μ (pc + 1) (a0 :: some (.long x) :: none :: t) st sh M nc ns Post) (ha : fp_nl a0 = true := by rfl) : fp_W X μ pc (a0 :: z :: z' :: t) (.long x :: st) sh M nc ns Post := r_lstoreGn hd (by show 1 + 1 < _; simp; try omega) (fp_hp (n := 0) (a := a0) rfl rfl ha) k
theorem r_iinc1 {a0 : Option Value} {t : List (Option Value)} {x : Int32} {i : Int} (d : Int32) (hd : decode μ.2.1 pc = .ok (.iinc 1 i, 3)) (k : fp_W X μ (pc + 3) (a0 :: some (.int (x + d)) :: t) st sh M nc ns Post) (hv : Int32.ofInt i = d := by decide) (ha : fp_nl a0 = true := by rfl) : fp_W X μ pc (a0 :: some (.int x) :: t) st sh M nc ns Post := r_iincG hd rfl (by rw [hv]) (fp_hp (n := 0) (a := a0) rfl rfl ha) k
theorem r_istore2 {a0 a1 : Option Value} {z : Option Value} {t : List (Option Value)} {x : Int32} (hd : decode μ.2.1 pc = .ok (.istore_n 2, 1)) (k : fp_W X μ (pc + 1) (a0 :: a1 :: some (.int x) :: t) st sh M nc ns Post) (ha : fp_nl a1 = true := by rfl) : fp_W X μ pc (a0 :: a1 :: z :: t) (.int x :: st) sh M nc ns Post := r_istoreGn hd (by show 2 < _; simp; try omega) (fp_hp (n := 1) (a := a1) rfl rfl ha)  k
theorem r_astore2 {a0 a1 : Option Value} {z : Option Value} {t : List (Option Value)} {r : Nat} (hd : decode μ.2.1 pc = .ok (.astore_n 2, 1)) (hk : r < 132 ∧ ¬ (112 ≤ r ∧ r < 120) ∨ r = 150) (k : fp_W X μ (pc + 1) (a0 :: a1 :: some (.ref r) :: t) st sh M nc ns Post) (ha : fp_nl a1 = true := by rfl) : fp_W X μ pc (a0 :: a1 :: z :: t) (.ref r :: st) sh M nc ns Post := r_astoreGn hd (by show 2 < _; simp; try omega) (fp_hp (n := 1) (a := a1) rfl rfl ha) hk k
theorem r_lstore2 {a0 a1 : Option Value} {z z' : Option Value} {t : List (Option Value)} {x : Int64} (hd : decode μ.2.1 pc = .ok (.lstore_n 2, 1)) (k : fp_W X μ (pc + 1) (a0 :: a1 :: some (.long x) :: none :: t) st sh M nc ns Post) (ha : fp_nl a1 = true := by rfl) : fp_W X μ pc (a0 :: a1 :: z :: z' :: t) (.long x :: st) sh M nc ns Post := r_lstoreGn hd (by show 2 + 1 < _; simp; try omega) (fp_hp (n := 1) (a := a1) rfl rfl ha) k
theorem r_iinc2 {a0 a1 : Option Value} {t : List (Option Value)} {x : Int32} {i : Int} (d : Int32) (hd : decode μ.2.1 pc = .ok (.iinc 2 i, 3)) (k : fp_W X μ (pc + 3) (a0 :: a1 :: some (.int (x + d)) :: t) st sh M nc ns Post) (hv : Int32.ofInt i = d := by decide) (ha : fp_nl a1 = true := by rfl) : fp_W X μ pc (a0 :: a1 :: some (.int x) :: t) st sh M nc ns Post := r_iincG hd rfl (by rw [hv]) (fp_hp (n := 1) (a := a1) rfl rfl ha) k
theorem r_istore3 {a0 a1 a2 : Option Value} {z : Option Value} {t : List (Option Value)} {x : Int32} (hd : decode μ.2.1 pc = .ok (.istore_n 3, 1)) (k : fp_W X μ (pc + 1) (a0 :: a1 :: a2 :: some (.int x) :: t) st sh M nc ns Post) (ha : fp_nl a2 = true := by rfl) : fp_W X μ pc (a0 :: a1 :: a2 :: z :: t) (.int x :: st) sh M nc ns Post := r_istoreGn hd (by show 3 < _; simp; try omega) (fp_hp (n := 2) (a := a2) rfl rfl ha)  k
theorem r_astore3 {a0 a1 a2 : Option Value} {z : Option Value} {t : List (Option Value)} {r : Nat} (hd : decode μ.2.1 pc = .ok (.astore_n 3, 1)) (hk : r < 132 ∧ ¬ (112 ≤ r ∧ r < 120) ∨ r = 150) (k : fp_W X μ (pc + 1) (a0 :: a1 :: a2 :: some (.ref r) :: t) st sh M nc ns Post) (ha : fp_nl a2 = true := by rfl) : fp_W X μ pc (a0 :: a1 :: a2 :: z :: t) (.ref r :: st) sh M nc ns Post := r_astoreGn hd (by show 3 < _; simp; try omega) (fp_hp (n := 2) (a := a2) rfl rfl ha) hk k
theorem r_lstore3 {a0 a1 a2 : Option Value} {z z' : Option Value} {t : List (Option Value)} {x : Int64} (hd : decode μ.2.1 pc = .ok (.lstore_n 3, 1)) (k : fp_W X μ (pc + 1) (a0 :: a1 :: a2 :: some (.long x) :: none :: t) st sh M nc ns Post) (ha : fp_nl a2 = true := by rfl) : fp_W X μ pc (a0 :: a1 :: a2 :: z :: z' :: t) (.long x :: st) sh M nc ns Post := r_lstoreGn hd (by show 3 + 1 < _; simp; try omega) (fp_hp (n := 2) (a := a2) rfl rfl ha) k
theorem r_iinc3 {a0 a1 a2 : Option Value} {t : List (Option Value)} {x : Int32} {i : Int} (d : Int32) (hd : decode μ.2.1 pc = .ok (.iinc 3 i, 3)) (k : fp_W X μ (pc + 3) (a0 :: a1 :: a2 :: some (.int (x + d)) :: t) st sh M nc ns Post) (hv : Int32.ofInt i = d := by decide) (ha : fp_nl a2 = true := by rfl) : fp_W X μ pc (a0 :: a1 :: a2 :: some (.int x) :: t) st sh M nc ns Post := r_iincG hd rfl (by rw [hv]) (fp_hp (n := 2) (a := a2) rfl rfl ha) k
theorem r_istore4 {a0 a1 a2 a3 : Option Value} {z : Option Value} {t : List (Option Value)} {x : Int32} (hd : decode μ.2.1 pc = .ok (.istore 4, 2)) (k : fp_W X μ (pc + 2) (a0 :: a1 :: a2 :: a3 :: some (.int x) :: t) st sh M nc ns Post) (ha : fp_nl a3 = true := by rfl) : fp_W X μ pc (a0 :: a1 :: a2 :: a3 :: z :: t) (.int x :: st) sh M nc ns Post := r_istoreG hd (by show 4 < _; simp; try omega) (fp_hp (n := 3) (a := a3) rfl rfl ha)  k
theorem r_astore4 {a0 a1 a2 a3 : Option Value} {z : Option Value} {t : List (Option Value)} {r : Nat} (hd : decode μ.2.1 pc = .ok (.astore 4, 2)) (hk : r < 132 ∧ ¬ (112 ≤ r ∧ r < 120) ∨ r = 150) (k : fp_W X μ (pc + 2) (a0 :: a1 :: a2 :: a3 :: some (.ref r) :: t) st sh M nc ns Post) (ha : fp_nl a3 = true := by rfl) : fp_W X μ pc (a0 :: a1 :: a2 :: a3 :: z :: t) (.ref r :: st) sh M nc ns Post := r_astoreG hd (by show 4 < _; simp; try omega) (fp_hp (n := 3) (a := a3) rfl rfl ha) hk k
theorem r_lstore4 {a0 a1 a2 a3 : Option Value} {z z' : Option Value} {t : List (Option Value)} {x : Int64} (hd : decode μ.2.1 pc = .ok (.lstore 4, 2)) (k : fp_W X μ (pc + 2) (a0 :: a1 :: a2 :: a3 :: some (.long x) :: none :: t) st sh M nc ns Post) (ha : fp_nl a3 = true := by rfl) : fp_W X μ pc (a0 :: a1 :: a2 :: a3 :: z :: z' :: t) (.long x :: st) sh M nc ns Post := r_lstoreG hd (by show 4 + 1 < _; simp; try omega) (fp_hp (n := 3) (a := a3) rfl rfl ha) k
theorem r_iinc4 {a0 a1 a2 a3 : Option Value} {t : List (Option Value)} {x : Int32} {i : Int} (d : Int32) (hd : decode μ.2.1 pc = .ok (.iinc 4 i, 3)) (k : fp_W X μ (pc + 3) (a0 :: a1 :: a2 :: a3 :: some (.int (x + d)) :: t) st sh M nc ns Post) (hv : Int32.ofInt i = d := by decide) (ha : fp_nl a3 = true := by rfl) : fp_W X μ pc (a0 :: a1 :: a2 :: a3 :: some (.int x) :: t) st sh M nc ns Post := r_iincG hd rfl (by rw [hv]) (fp_hp (n := 3) (a := a3) rfl rfl ha) k
theorem r_istore5 {a0 a1 a2 a3 a4 : Option Value} {z : Option Value} {t : List (Option Value)} {x : Int32} (hd : decode μ.2.1 pc = .ok (.istore 5, 2)) (k : fp_W X μ (pc + 2) (a0 :: a1 :: a2 :: a3 :: a4 :: some (.int x) :: t) st sh M nc ns Post) (ha : fp_nl a4 = true := by rfl) : fp_W X μ pc (a0 :: a1 :: a2 :: a3 :: a4 :: z :: t) (.int x :: st) sh M nc ns Post := r_istoreG hd (by show 5 < _; simp; try omega) (fp_hp (n := 4) (a := a4) rfl rfl ha)  k
theorem r_astore5 {a0 a1 a2 a3 a4 : Option Value} {z : Option Value} {t : List (Option Value)} {r : Nat} (hd : decode μ.2.1 pc = .ok (.astore 5, 2)) (hk : r < 132 ∧ ¬ (112 ≤ r ∧ r < 120) ∨ r = 150) (k : fp_W X μ (pc + 2) (a0 :: a1 :: a2 :: a3 :: a4 :: some (.ref r) :: t) st sh M nc ns Post) (ha : fp_nl a4 = true := by rfl) : fp_W X μ pc (a0 :: a1 :: a2 :: a3 :: a4 :: z :: t) (.ref r :: st) sh M nc ns Post := r_astoreG hd (by show 5 < _; simp; try omega) (fp_hp (n := 4) (a := a4) rfl rfl ha) hk k
theorem r_lstore5 {a0 a1 a2 a3 a4 : Option Value} {z z' : Option Value} {t : List (Option Value)} {x : Int64} (hd : decode μ.2.1 pc = .ok (.lstore 5, 2)) (k : fp_W X μ (pc + 2) (a0 :: a1 :: a2 :: a3 :: a4 :: some (.long x) :: none :: t) st sh M nc ns Post) (ha : fp_nl a4 = true := by rfl) : fp_W X μ pc (a0 :: a1 :: a2 :: a3 :: a4 :: z :: z' :: t) (.long x :: st) sh M nc ns Post := r_lstoreG hd (by show 5 + 1 < _; simp; try omega) (fp_hp (n := 4) (a := a4) rfl rfl ha) k
theorem r_iinc5 {a0 a1 a2 a3 a4 : Option Value} {t : List (Option Value)} {x : Int32} {i : Int} (d : Int32) (hd : decode μ.2.1 pc = .ok (.iinc 5 i, 3)) (k : fp_W X μ (pc + 3) (a0 :: a1 :: a2 :: a3 :: a4 :: some (.int (x + d)) :: t) st sh M nc ns Post) (hv : Int32.ofInt i = d := by decide) (ha : fp_nl a4 = true := by rfl) : fp_W X μ pc (a0 :: a1 :: a2 :: a3 :: a4 :: some (.int x) :: t) st sh M nc ns Post := r_iincG hd rfl (by rw [hv]) (fp_hp (n := 4) (a := a4) rfl rfl ha) k
theorem r_istore6 {a0 a1 a2 a3 a4 a5 : Option Value} {z : Option Value} {t : List (Option Value)} {x : Int32} (hd : decode μ.2.1 pc = .ok (.istore 6, 2)) (k : fp_W X μ (pc + 2) (a0 :: a1 :: a2 :: a3 :: a4 :: a5 :: some (.int x) :: t) st sh M nc ns Post) (ha : fp_nl a5 = true := by rfl) : fp_W X μ pc (a0 :: a1 :: a2 :: a3 :: a4 :: a5 :: z :: t) (.int x :: st) sh M nc ns Post := r_istoreG hd (by show 6 < _; simp; try omega) (fp_hp (n := 5) (a := a5) rfl rfl ha)  k
theorem r_astore6 {a0 a1 a2 a3 a4 a5 : Option Value} {z : Option Value} {t : List (Option Value)} {r : Nat} (hd : decode μ.2.1 pc = .ok (.astore 6, 2)) (hk : r < 132 ∧ ¬ (112 ≤ r ∧ r < 120) ∨ r = 150) (k : fp_W X μ (pc + 2) (a0 :: a1 :: a2 :: a3 :: a4 :: a5 :: some (.ref r) :: t) st sh M nc ns Post) (ha : fp_nl a5 = true := by rfl) : fp_W X μ pc (a0 :: a1 :: a2 :: a3 :: a4 :: a5 :: z :: t) (.ref r :: st) sh M nc ns Post := r_astoreG hd (by show 6 < _; simp; try omega) (fp_hp (n := 5) (a := a5) rfl rfl ha) hk k
theorem r_lstore6 {a0 a1 a2 a3 a4 a5 : Option Value} {z z' : Option Value} {t : List (Option Value)} {x : Int64} (hd : decode μ.2.1 pc = .ok (.lstore 6, 2)) (k : fp_W X μ (pc + 2) (a0 :: a1 :: a2 :: a3 :: a4 :: a5 :: some (.long x) :: none :: t) st sh M nc ns Post) (ha : fp_nl a5 = true := by rfl) : fp_W X μ pc (a0 :: a1 :: a2 :: a3 :: a4 :: a5 :: z :: z' :: t) (.long x :: st) sh M nc ns Post := r_lstoreG hd (by show 6 + 1 < _; simp; try omega) (fp_hp (n := 5) (a := a5) rfl rfl ha) k
theorem r_iinc6 {a0 a1 a2 a3 a4 a5 : Option Value} {t : List (Option Value)} {x : Int32} {i : Int} (d : Int32) (hd : decode μ.2.1 pc = .ok (.iinc 6 i, 3)) (k : fp_W X μ (pc + 3) (a0 :: a1 :: a2 :: a3 :: a4 :: a5 :: some (.int (x + d)) :: t) st sh M nc ns Post) (hv : Int32.ofInt i = d := by decide) (ha : fp_nl a5 = true := by rfl) : fp_W X μ pc (a0 :: a1 :: a2 :: a3 :: a4 :: a5 :: some (.int x) :: t) st sh M nc ns Post := r_iincG hd rfl (by rw [hv]) (fp_hp (n := 5) (a := a5) rfl rfl ha) k
theorem r_istore7 {a0 a1 a2 a3 a4 a5 a6 : Option Value} {z : Option Value} {t : List (Option Value)} {x : Int32} (hd : decode μ.2.1 pc = .ok (.istore 7, 2)) (k : fp_W X μ (pc + 2) (a0 :: a1 :: a2 :: a3 :: a4 :: a5 :: a6 :: some (.int x) :: t) st sh M nc ns Post) (ha : fp_nl a6 = true := by rfl) : fp_W X μ pc (a0 :: a1 :: a2 :: a3 :: a4 :: a5 :: a6 :: z :: t) (.int x :: st) sh M nc ns Post := r_istoreG hd (by show 7 < _; simp; try omega) (fp_hp (n := 6) (a := a6) rfl rfl ha)  k
theorem r_astore7 {a0 a1 a2 a3 a4 a5 a6 : Option Value} {z : Option Value} {t : List (Option Value)} {r : Nat} (hd : decode μ.2.1 pc = .ok (.astore 7, 2)) (hk : r < 132 ∧ ¬ (112 ≤ r ∧ r < 120) ∨ r = 150) (k : fp_W X μ (pc + 2) (a0 :: a1 :: a2 :: a3 :: a4 :: a5 :: a6 :: some (.ref r) :: t) st sh M nc ns Post) (ha : fp_nl a6 = true := by rfl) : fp_W X μ pc (a0 :: a1 :: a2 :: a3 :: a4 :: a5 :: a6 :: z :: t) (.ref r :: st) sh M nc ns Post := r_astoreG hd (by show 7 < _; simp; try omega) (fp_hp (n := 6) (a := a6) rfl rfl ha) hk k
theorem r_lstore7 {a0 a1 a2 a3 a4 a5 a6 : Option Value} {z z' : Option Value} {t : List (Option Value)} {x : Int64} (hd : decode μ.2.1 pc = .ok (.lstore 7, 2)) (k : fp_W X μ (pc + 2) (a0 :: a1 :: a2 :: a3 :: a4 :: a5 :: a6 :: some (.long x) :: none :: t) st sh M nc ns Post) (ha : fp_nl a6 = true := by rfl) : fp_W X μ pc (a0 :: a1 :: a2 :: a3 :: a4 :: a5 :: a6 :: z :: z' :: t) (.long x :: st) sh M nc ns Post := r_lstoreG hd (by show 7 + 1 < _; simp; try omega) (fp_hp (n := 6) (a := a6) rfl rfl ha) k
theorem r_iinc7 {a0 a1 a2 a3 a4 a5 a6 : Option Value} {t : List (Option Value)} {x : Int32} {i : Int} (d : Int32) (hd : decode μ.2.1 pc = .ok (.iinc 7 i, 3)) (k : fp_W X μ (pc + 3) (a0 :: a1 :: a2 :: a3 :: a4 :: a5 :: a6 :: some (.int (x + d)) :: t) st sh M nc ns Post) (hv : Int32.ofInt i = d := by decide) (ha : fp_nl a6 = true := by rfl) : fp_W X μ pc (a0 :: a1 :: a2 :: a3 :: a4 :: a5 :: a6 :: some (.int x) :: t) st sh M nc ns Post := r_iincG hd rfl (by rw [hv]) (fp_hp (n := 6) (a := a6) rfl rfl ha) k
theorem r_istore8 {a0 a1 a2 a3 a4 a5 a6 a7 : Option Value} {z : Option Value} {t : List (Option Value)} {x : Int32} (hd : decode μ.2.1 pc = .ok (.istore 8, 2)) (k : fp_W X μ (pc + 2) (a0 :: a1 :: a2 :: a3 :: a4 :: a5 :: a6 :: a7 :: some (.int x) :: t) st sh M nc ns Post) (ha : fp_nl a7 = true := by rfl) : fp_W X μ pc (a0 :: a1 :: a2 :: a3 :: a4 :: a5 :: a6 :: a7 :: z :: t) (.int x :: st) sh M nc ns Post := r_istoreG hd (by show 8 < _; simp; try omega) (fp_hp (n := 7) (a := a7) rfl rfl ha)  k
theorem r_astore8 {a0 a1 a2 a3 a4 a5 a6 a7 : Option Value} {z : Option Value} {t : List (Option Value)} {r : Nat} (hd : decode μ.2.1 pc = .ok (.astore 8, 2)) (hk : r < 132 ∧ ¬ (112 ≤ r ∧ r < 120) ∨ r = 150) (k : fp_W X μ (pc + 2) (a0 :: a1 :: a2 :: a3 :: a4 :: a5 :: a6 :: a7 :: some (.ref r) :: t) st sh M nc ns Post) (ha : fp_nl a7 = true := by rfl) : fp_W X μ pc (a0 :: a1 :: a2 :: a3 :: a4 :: a5 :: a6 :: a7 :: z :: t) (.ref r :: st) sh M nc ns Post := r_astoreG hd (by show 8 < _; simp; try omega) (fp_hp (n := 7) (a := a7) rfl rfl ha) hk k
theorem r_lstore8 {a0 a1 a2 a3 a4 a5 a6 a7 : Option Value} {z z' : Option Value} {t : List (Option Value)} {x : Int64} (hd : decode μ.2.1 pc = .ok (.lstore 8, 2)) (k : fp_W X μ (pc + 2) (a0 :: a1 :: a2 :: a3 :: a4 :: a5 :: a6 :: a7 :: some (.long x) :: none :: t) st sh M nc ns Post) (ha : fp_nl a7 = true := by rfl) : fp_W X μ pc (a0 :: a1 :: a2 :: a3 :: a4 :: a5 :: a6 :: a7 :: z :: z' :: t) (.long x :: st) sh M nc ns Post := r_lstoreG hd (by show 8 + 1 < _; simp; try omega) (fp_hp (n := 7) (a := a7) rfl rfl ha) k
theorem r_iinc8 {a0 a1 a2 a3 a4 a5 a6 a7 : Option Value} {t : List (Option Value)} {x : Int32} {i : Int} (d : Int32) (hd : decode μ.2.1 pc = .ok (.iinc 8 i, 3)) (k : fp_W X μ (pc + 3) (a0 :: a1 :: a2 :: a3 :: a4 :: a5 :: a6 :: a7 :: some (.int (x + d)) :: t) st sh M nc ns Post) (hv : Int32.ofInt i = d := by decide) (ha : fp_nl a7 = true := by rfl) : fp_W X μ pc (a0 :: a1 :: a2 :: a3 :: a4 :: a5 :: a6 :: a7 :: some (.int x) :: t) st sh M nc ns Post := r_iincG hd rfl (by rw [hv]) (fp_hp (n := 7) (a := a7) rfl rfl ha) k
theorem r_istore9 {a0 a1 a2 a3 a4 a5 a6 a7 a8 : Option Value} {z : Option Value} {t : List (Option Value)} {x : Int32} (hd : decode μ.2.1 pc = .ok (.istore 9, 2)) (k : fp_W X μ (pc + 2) (a0 :: a1 :: a2 :: a3 :: a4 :: a5 :: a6 :: a7 :: a8 :: some (.int x) :: t) st sh M nc ns Post) (ha : fp_nl a8 = true := by rfl) : fp_W X μ pc (a0 :: a1 :: a2 :: a3 :: a4 :: a5 :: a6 :: a7 :: a8 :: z :: t) (.int x :: st) sh M nc ns Post := r_istoreG hd (by show 9 < _; simp; try omega) (fp_hp (n := 8) (a := a8) rfl rfl ha)  k
theorem r_astore9 {a0 a1 a2 a3 a4 a5 a6 a7 a8 : Option Value} {z : Option Value} {t : List (Option Value)} {r : Nat} (hd : decode μ.2.1 pc = .ok (.astore 9, 2)) (hk : r < 132 ∧ ¬ (112 ≤ r ∧ r < 120) ∨ r = 150) (k : fp_W X μ (pc + 2) (a0 :: a1 :: a2 :: a3 :: a4 :: a5 :: a6 :: a7 :: a8 :: some (.ref r) :: t) st sh M nc ns Post) (ha : fp_nl a8 = true := by rfl) : fp_W X μ pc (a0 :: a1 :: a2 :: a3 :: a4 :: a5 :: a6 :: a7 :: a8 :: z :: t) (.ref r :: st) sh M nc ns Post := r_astoreG hd (by show 9 < _; simp; try omega) (fp_hp (n := 8) (a := a8) rfl rfl ha) hk k
theorem r_lstore9 {a0 a1 a2 a3 a4 a5 a6 a7 a8 : Option Value} {z z' : Option Value} {t : List (Option Value)} {x : Int64} (hd : decode μ.2.1 pc = .ok (.lstore 9, 2)) (k : fp_W X μ (pc + 2) (a0 :: a1 :: a2 :: a3 :: a4 :: a5 :: a6 :: a7 :: a8 :: some (.long x) :: none :: t) st sh M nc ns Post) (ha : fp_nl a8 = true := by rfl) : fp_W X μ pc (a0 :: a1 :: a2 :: a3 :: a4 :: a5 :: a6 :: a7 :: a8 :: z :: z' :: t) (.long x :: st) sh M nc ns Post := r_lstoreG hd (by show 9 + 1 < _; simp; try omega) (fp_hp (n := 8) (a := a8) rfl rfl ha) k
theorem r_iinc9 {a0 a1 a2 a3 a4 a5 a6 a7 a8 : Option Value} {t : List (Option Value)} {x : Int32} {i : Int} (d : Int32) (hd : decode μ.2.1 pc = .ok (.iinc 9 i, 3)) (k : fp_W X μ (pc + 3) (a0 :: a1 :: a2 :: a3 :: a4 :: a5 :: a6 :: a7 :: a8 :: some (.int (x + d)) :: t) st sh M nc ns Post) (hv : Int32.ofInt i = d := by decide) (ha : fp_nl a8 = true := by rfl) : fp_W X μ pc (a0 :: a1 :: a2 :: a3 :: a4 :: a5 :: a6 :: a7 :: a8 :: some (.int x) :: t) st sh M nc ns Post := r_iincG hd rfl (by rw [hv]) (fp_hp (n := 8) (a := a8) rfl rfl ha) k
theorem r_istore10 {a0 a1 a2 a3 a4 a5 a6 a7 a8 a9 : Option Value} {z : Option Value} {t : List (Option Value)} {x : Int32} (hd : decode μ.2.1 pc = .ok (.istore 10, 2)) (k : fp_W X μ (pc + 2) (a0 :: a1 :: a2 :: a3 :: a4 :: a5 :: a6 :: a7 :: a8 :: a9 :: some (.int x) :: t) st sh M nc ns Post) (ha : fp_nl a9 = true := by rfl) : fp_W X μ pc (a0 :: a1 :: a2 :: a3 :: a4 :: a5 :: a6 :: a7 :: a8 :: a9 :: z :: t) (.int x :: st) sh M nc ns Post := r_istoreG hd (by show 10 < _; simp; try omega) (fp_hp (n := 9) (a := a9) rfl rfl ha)  k
theorem r_astore10 {a0 a1 a2 a3 a4 a5 a6 a7 a8 a9 : Option Value} {z : Option Value} {t : List (Option Value)} {r : Nat} (hd : decode μ.2.1 pc = .ok (.astore 10, 2)) (hk : r < 132 ∧ ¬ (112 ≤ r ∧ r < 120) ∨ r = 150) (k : fp_W X μ (pc + 2) (a0 :: a1 :: a2 :: a3 :: a4 :: a5 :: a6 :: a7 :: a8 :: a9 :: some (.ref r) :: t) st sh M nc ns Post) (ha : fp_nl a9 = true := by rfl) : fp_W X μ pc (a0 :: a1 :: a2 :: a3 :: a4 :: a5 :: a6 :: a7 :: a8 :: a9 :: z :: t) (.ref r :: st) sh M nc ns Post := r_astoreG hd (by show 10 < _; simp; try omega) (fp_hp (n := 9) (a := a9) rfl rfl ha) hk k
theorem r_lstore10 {a0 a1 a2 a3 a4 a5 a6 a7 a8 a9 : Option Value} {z z' : Option Value} {t : List (Option Value)} {x : Int64} (hd : decode μ.2.1 pc = .ok (.lstore 10, 2)) (k : fp_W X μ (pc + 2) (a0 :: a1 :: a2 :: a3 :: a4 :: a5 :: a6 :: a7 :: a8 :: a9 :: some (.long x) :: none :: t) st sh M nc ns Post) (ha : fp_nl a9 = true := by rfl) : fp_W X μ pc (a0 :: a1 :: a2 :: a3 :: a4 :: a5 :: a6 :: a7 :: a8 :: a9 :: z :: z' :: t) (.long x :: st) sh M nc ns Post := r_lstoreG hd (by show 10 + 1 < _; simp; try omega) (fp_hp (n := 9) (a := a9) rfl rfl ha) k
theorem r_iinc10 {a0 a1 a2 a3 a4 a5 a6 a7 a8 a9 : Option Value} {t : List (Option Value)} {x : Int32} {i : Int} (d : Int32) (hd : decode μ.2.1 pc = .ok (.iinc 10 i, 3)) (k : fp_W X μ (pc + 3) (a0 :: a1 :: a2 :: a3 :: a4 :: a5 :: a6 :: a7 :: a8 :: a9 :: some (.int (x + d)) :: t) st sh M nc ns Post) (hv : Int32.ofInt i = d := by decide) (ha : fp_nl a9 = true := by rfl) : fp_W X μ pc (a0 :: a1 :: a2 :: a3 :: a4 :: a5 :: a6 :: a7 :: a8 :: a9 :: some (.int x) :: t) st sh M nc ns Post := r_iincG hd rfl (by rw [hv]) (fp_hp (n := 9) (a := a9) rfl rfl ha) k
theorem r_istore11 {a0 a1 a2 a3 a4 a5 a6 a7 a8 a9 a10 : Option Value} {z : Option Value} {t : List (Option Value)} {x : Int32} (hd : decode μ.2.1 pc = .ok (.istore 11, 2)) (k : fp_W X μ (pc + 2) (a0 :: a1 :: a2 :: a3 :: a4 :: a5 :: a6 :: a7 :: a8 :: a9 :: a10 :: some (.int x) :: t) st sh M nc ns Post) (ha : fp_nl a10 = true := by rfl) : fp_W X μ pc (a0 :: a1 :: a2 :: a3 :: a4 :: a5 :: a6 :: a7 :: a8 :: a9 :: a10 :: z :: t) (.int x :: st) sh M nc ns Post := r_istoreG hd (by show 11 < _; simp; try omega) (fp_hp (n := 10) (a := a10) rfl rfl ha)  k
theorem r_astore11 {a0 a1 a2 a3 a4 a5 a6 a7 a8 a9 a10 : Option Value} {z : Option Value} {t : List (Option Value)} {r : Nat} (hd : decode μ.2.1 pc = .ok (.astore 11, 2)) (hk : r < 132 ∧ ¬ (112 ≤ r ∧ r < 120) ∨ r = 150) (k : fp_W X μ (pc + 2) (a0 :: a1 :: a2 :: a3 :: a4 :: a5 :: a6 :: a7 :: a8 :: a9 :: a10 :: some (.ref r) :: t) st sh M nc ns Post) (ha : fp_nl a10 = true := by rfl) : fp_W X μ pc (a0 :: a1 :: a2 :: a3 :: a4 :: a5 :: a6 :: a7 :: a8 :: a9 :: a10 :: z :: t) (.ref r :: st) sh M nc ns Post := r_astoreG hd (by show 11 < _; simp; try omega) (fp_hp (n := 10) (a := a10) rfl rfl ha) hk k
theorem r_lstore11 {a0 a1 a2 a3 a4 a5 a6 a7 a8 a9 a10 : Option Value} {z z' : Option Value} {t : List (Option Value)} {x : Int64} (hd : decode μ.2.1 pc = .ok (.lstore 11, 2)) (k : fp_W X μ (pc + 2) (a0 :: a1 :: a2 :: a3 :: a4 :: a5 :: a6 :: a7 :: a8 :: a9 :: a10 :: some (.long x) :: none :: t) st sh M nc ns Post) (ha : fp_nl a10 = true := by rfl) : fp_W X μ pc (a0 :: a1 :: a2 :: a3 :: a4 :: a5 :: a6 :: a7 :: a8 :: a9 :: a10 :: z :: z' :: t) (.long x :: st) sh M nc ns Post := r_lstoreG hd (by show 11 + 1 < _; simp; try omega) (fp_hp (n := 10) (a := a10) rfl rfl ha) k
theorem r_iinc11 {a0 a1 a2 a3 a4 a5 a6 a7 a8 a9 a10 : Option Value} {t : List (Option Value)} {x : Int32} {i : Int} (d : Int32) (hd : decode μ.2.1 pc = .ok (.iinc 11 i, 3)) (k : fp_W X μ (pc + 3) (a0 :: a1 :: a2 :: a3 :: a4 :: a5 :: a6 :: a7 :: a8 :: a9 :: a10 :: some (.int (x + d)) :: t) st sh M nc ns Post) (hv : Int32.ofInt i = d := by decide) (ha : fp_nl a10 = true := by rfl) : fp_W X μ pc (a0 :: a1 :: a2 :: a3 :: a4 :: a5 :: a6 :: a7 :: a8 :: a9 :: a10 :: some (.int x) :: t) st sh M nc ns Post := r_iincG hd rfl (by rw [hv]) (fp_hp (n := 10) (a := a10) rfl rfl ha) k
theorem r_istore12 {a0 a1 a2 a3 a4 a5 a6 a7 a8 a9 a10 a11 : Option Value} {z : Option Value} {t : List (Option Value)} {x : Int32} (hd : decode μ.2.1 pc = .ok (.istore 12, 2)) (k : fp_W X μ (pc + 2) (a0 :: a1 :: a2 :: a3 :: a4 :: a5 :: a6 :: a7 :: a8 :: a9 :: a10 :: a11 :: some (.int x) :: t) st sh M nc ns Post) (ha : fp_nl a11 = true := by rfl) : fp_W X μ pc (a0 :: a1 :: a2 :: a3 :: a4 :: a5 :: a6 :: a7 :: a8 :: a9 :: a10 :: a11 :: z :: t) (.int x :: st) sh M nc ns Post := r_istoreG hd (by show 12 < _; simp; try omega) (fp_hp (n := 11) (a := a11) rfl rfl ha)  k
theorem r_astore12 {a0 a1 a2 a3 a4 a5 a6 a7 a8 a9 a10 a11 : Option Value} {z : Option Value} {t : List (Option Value)} {r : Nat} (hd : decode μ.2.1 pc = .ok (.astore 12, 2)) (hk : r < 132 ∧ ¬ (112 ≤ r ∧ r < 120) ∨ r = 150) (k : fp_W X μ (pc + 2) (a0 :: a1 :: a2 :: a3 :: a4 :: a5 :: a6 :: a7 :: a8 :: a9 :: a10 :: a11 :: some (.ref r) :: t) st sh M nc ns Post) (ha : fp_nl a11 = true := by rfl) : fp_W X μ pc (a0 :: a1 :: a2 :: a3 :: a4 :: a5 :: a6 :: a7 :: a8 :: a9 :: a10 :: a11 :: z :: t) (.ref r :: st) sh M nc ns Post := r_astoreG hd (by show 12 < _; simp; try omega) (fp_hp (n := 11) (a := a11) rfl rfl ha) hk k
theorem r_lstore12 {a0 a1 a2 a3 a4 a5 a6 a7 a8 a9 a10 a11 : Option Value} {z z' : Option Value} {t : List (Option Value)} {x : Int64} (hd : decode μ.2.1 pc = .ok (.lstore 12, 2)) (k : fp_W X μ (pc + 2) (a0 :: a1 :: a2 :: a3 :: a4 :: a5 :: a6 :: a7 :: a8 :: a9 :: a10 :: a11 :: some (.long x) :: none :: t) st sh M nc ns Post) (ha : fp_nl a11 = true := by rfl) : fp_W X μ pc (a0 :: a1 :: a2 :: a3 :: a4 :: a5 :: a6 :: a7 :: a8 :: a9 :: a10 :: a11 :: z :: z' :: t) (.long x :: st) sh M nc ns Post := r_lstoreG hd (by show 12 + 1 < _; simp; try omega) (fp_hp (n := 11) (a := a11) rfl rfl ha) k
theorem r_iinc12 {a0 a1 a2 a3 a4 a5 a6 a7 a8 a9 a10 a11 : Option Value} {t : List (Option Value)} {x : Int32} {i : Int} (d : Int32) (hd : decode μ.2.1 pc = .ok (.iinc 12 i, 3)) (k : fp_W X μ (pc + 3) (a0 :: a1 :: a2 :: a3 :: a4 :: a5 :: a6 :: a7 :: a8 :: a9 :: a10 :: a11 :: some (.int (x + d)) :: t) st sh M nc ns Post) (hv : Int32.ofInt i = d := by decide) (ha : fp_nl a11 = true := by rfl) : fp_W X μ pc (a0 :: a1 :: a2 :: a3 :: a4 :: a5 :: a6 :: a7 :: a8 :: a9 :: a10 :: a11 :: some (.int x) :: t) st sh M nc ns Post := r_iincG hd rfl (by rw [hv]) (fp_hp (n := 11) (a := a11) rfl rfl ha) k
theorem r_istore13 {a0 a1 a2 a3 a4 a5 a6 a7 a8 a9 a10 a11 a12 : Option Value} {z : Option Value} {t : List (Option Value)} {x : Int32} (hd : decode μ.2.1 pc = .ok (.istore 13, 2)) (k : fp_W X μ (pc + 2) (a0 :: a1 :: a2 :: a3 :: a4 :: a5 :: a6 :: a7 :: a8 :: a9 :: a10 :: a11 :: a12 :: some (.int x) :: t) st sh M nc ns Post) (ha : fp_nl a12 = true := by rfl) : fp_W X μ pc (a0 :: a1 :: a2 :: a3 :: a4 :: a5 :: a6 :: a7 :: a8 :: a9 :: a10 :: a11 :: a12 :: z :: t) (.int x :: st) sh M nc ns Post := r_istoreG hd (by show 13 < _; simp; try omega) (fp_hp (n := 12) (a := a12) rfl rfl ha)  k
theorem r_astore13 {a0 a1 a2 a3 a4 a5 a6 a7 a8 a9 a10 a11 a12 : Option Value} {z : Option Value} {t : List (Option Value)} {r : Nat} (hd : decode μ.2.1 pc = .ok (.astore 13, 2)) (hk : r < 132 ∧ ¬ (112 ≤ r ∧ r < 120) ∨ r = 150) (k : fp_W X μ (pc + 2) (a0 :: a1 :: a2 :: a3 :: a4 :: a5 :: a6 :: a7 :: a8 :: a9 :: a10 :: a11 :: a12 :: some (.ref r) :: t) st sh M nc ns Post) (ha : fp_nl a12 = true := by rfl) : fp_W X μ pc (a0 :: a1 :: a2 :: a3 :: a4 :: a5 :: a6 :: a7 :: a8 :: a9 :: a10 :: a11 :: a12 :: z :: t) (.ref r :: st) sh M nc ns Post := r_astoreG hd (by show 13 < _; simp; try omega) (fp_hp (n := 12) (a := a12) rfl rfl ha) hk k
theorem r_lstore13 {a0 a1 a2 a3 a4 a5 a6 a7 a8 a9 a10 a11 a12 : Option Value} {z z' : Option Value} {t : List (Option Value)} {x : Int64} (hd : decode μ.2.1 pc = .ok (.lstore 13, 2)) (k : fp_W X μ (pc + 2) (a0 :: a1 :: a2 :: a3 :: a4 :: a5 :: a6 :: a7 :: a8 :: a9 :: a10 :: a11 :: a12 :: some (.long x) :: none :: t) st sh M nc ns Post) (ha : fp_nl a12 = true := by rfl) : fp_W X μ pc (a0 :: a1 :: a2 :: a3 :: a4 :: a5 :: a6 :: a7 :: a8 :: a9 :: a10 :: a11 :: a12 :: z :: z' :: t) (.long x :: st) sh M nc ns Post := r_lstoreG hd (by show 13 + 1 < _; simp; try omega) (fp_hp (n := 12) (a := a12) rfl rfl ha) k
theorem r_iinc13 {a0 a1 a2 a3 a4 a5 a6 a7 a8 a9 a10 a11 a12 : Option Value} {t : List (Option Value)} {x : Int32} {i : Int} (d : Int32) (hd : decode μ.2.1 pc = .ok (.iinc 13 i, 3)) (k : fp_W X μ (pc + 3) (a0 :: a1 :: a2 :: a3 :: a4 :: a5 :: a6 :: a7 :: a8 :: a9 :: a10 :: a11 :: a12 :: some (.int (x + d)) :: t) st sh M nc ns Post) (hv : Int32.ofInt i = d := by decide) (ha : fp_nl a12 = true := by rfl) : fp_W X μ pc (a0 :: a1 :: a2 :: a3 :: a4 :: a5 :: a6 :: a7 :: a8 :: a9 :: a10 :: a11 :: a12 :: some (.int x) :: t) st sh M nc ns Post := r_iincG hd rfl (by rw [hv]) (fp_hp (n := 12) (a := a12) rfl rfl ha) k
theorem r_istore14 {a0 a1 a2 a3 a4 a5 a6 a7 a8 a9 a10 a11 a12 a13 : Option Value} {z : Option Value} {t : List (Option Value)} {x : Int32} (hd : decode μ.2.1 pc = .ok (.istore 14, 2)) (k : fp_W X μ (pc + 2) (a0 :: a1 :: a2 :: a3 :: a4 :: a5 :: a6 :: a7 :: a8 :: a9 :: a10 :: a11 :: a12 :: a13 :: some (.int x) :: t) st sh M nc ns Post) (ha : fp_nl a13 = true := by rfl) : fp_W X μ pc (a0 :: a1 :: a2 :: a3 :: a4 :: a5 :: a6 :: a7 :: a8 :: a9 :: a10 :: a11 :: a12 :: a13 :: z :: t) (.int x :: st) sh M nc ns Post := r_istoreG hd (by show 14 < _; simp; try omega) (fp_hp (n := 13) (a := a13) rfl rfl ha)  k
theorem r_astore14 {a0 a1 a2 a3 a4 a5 a6 a7 a8 a9 a10 a11 a12 a13 : Option Value} {z : Option Value} {t : List (Option Value)} {r : Nat} (hd : decode μ.2.1 pc = .ok (.astore 14, 2)) (hk : r < 132 ∧ ¬ (112 ≤ r ∧ r < 120) ∨ r = 150) (k : fp_W X μ (pc + 2) (a0 :: a1 :: a2 :: a3 :: a4 :: a5 :: a6 :: a7 :: a8 :: a9 :: a10 :: a11 :: a12 :: a13 :: some (.ref r) :: t) st sh M nc ns Post) (ha : fp_nl a13 = true := by rfl) : fp_W X μ pc (a0 :: a1 :: a2 :: a3 :: a4 :: a5 :: a6 :: a7 :: a8 :: a9 :: a10 :: a11 :: a12 :: a13 :: z :: t) (.ref r :: st) sh M nc ns Post := r_astoreG hd (by show 14 < _; simp; try omega) (fp_hp (n := 13) (a := a13) rfl rfl ha) hk k
theorem r_lstore14 {a0 a1 a2 a3 a4 a5 a6 a7 a8 a9 a10 a11 a12 a13 : Option Value} {z z' : Option Value} {t : List (Option Value)} {x : Int64} (hd : decode μ.2.1 pc = .ok (.lstore 14, 2)) (k : fp_W X μ (pc + 2) (a0 :: a1 :: a2 :: a3 :: a4 :: a5 :: a6 :: a7 :: a8 :: a9 :: a10 :: a11 :: a12 :: a13 :: some (.long x) :: none :: t) st sh M nc ns Post) (ha : fp_nl a13 = true := by rfl) : fp_W X μ pc (a0 :: a1 :: a2 :: a3 :: a4 :: a5 :: a6 :: a7 :: a8 :: a9 :: a10 :: a11 :: a12 :: a13 :: z :: z' :: t) (.long x :: st) sh M nc ns Post := r_lstoreG hd (by show 14 + 1 < _; simp; try omega) (fp_hp (n := 13) (a := a13) rfl rfl ha) k
theorem r_iinc14 {a0 a1 a2 a3 a4 a5 a6 a7 a8 a9 a10 a11 a12 a13 : Option Value} {t : List (Option Value)} {x : Int32} {i : Int} (d : Int32) (hd : decode μ.2.1 pc = .ok (.iinc 14 i, 3)) (k : fp_W X μ (pc + 3) (a0 :: a1 :: a2 :: a3 :: a4 :: a5 :: a6 :: a7 :: a8 :: a9 :: a10 :: a11 :: a12 :: a13 :: some (.int (x + d)) :: t) st sh M nc ns Post) (hv : Int32.ofInt i = d := by decide) (ha : fp_nl a13 = true := by rfl) : fp_W X μ pc (a0 :: a1 :: a2 :: a3 :: a4 :: a5 :: a6 :: a7 :: a8 :: a9 :: a10 :: a11 :: a12 :: a13 :: some (.int x) :: t) st sh M nc ns Post := r_iincG hd rfl (by rw [hv]) (fp_hp (n := 13) (a := a13) rfl rfl ha) k
theorem r_istore15 {a0 a1 a2 a3 a4 a5 a6 a7 a8 a9 a10 a11 a12 a13 a14 : Option Value} {z : Option Value} {t : List (Option Value)} {x : Int32} (hd : decode μ.2.1 pc = .ok (.istore 15, 2)) (k : fp_W X μ (pc + 2) (a0 :: a1 :: a2 :: a3 :: a4 :: a5 :: a6 :: a7 :: a8 :: a9 :: a10 :: a11 :: a12 :: a13 :: a14 :: some (.int x) :: t) st sh M nc ns Post) (ha : fp_nl a14 = true := by rfl) : fp_W X μ pc (a0 :: a1 :: a2 :: a3 :: a4 :: a5 :: a6 :: a7 :: a8 :: a9 :: a10 :: a11 :: a12 :: a13 :: a14 :: z :: t) (.int x :: st) sh M nc ns Post := r_istoreG hd (by show 15 < _; simp; try omega) (fp_hp (n := 14) (a := a14) rfl rfl ha)  k
theorem r_astore15 {a0 a1 a2 a3 a4 a5 a6 a7 a8 a9 a10 a11 a12 a13 a14 : Option Value} {z : Option Value} {t : List (Option Value)} {r : Nat} (hd : decode μ.2.1 pc = .ok (.astore 15, 2)) (hk : r < 132 ∧ ¬ (112 ≤ r ∧ r < 120) ∨ r = 150) (k : fp_W X μ (pc + 2) (a0 :: a1 :: a2 :: a3 :: a4 :: a5 :: a6 :: a7 :: a8 :: a9 :: a10 :: a11 :: a12 :: a13 :: a14 :: some (.ref r) :: t) st sh M nc ns Post) (ha : fp_nl a14 = true := by rfl) : fp_W X μ pc (a0 :: a1 :: a2 :: a3 :: a4 :: a5 :: a6 :: a7 :: a8 :: a9 :: a10 :: a11 :: a12 :: a13 :: a14 :: z :: t) (.ref r :: st) sh M nc ns Post := r_astoreG hd (by show 15 < _; simp; try omega) (fp_hp (n := 14) (a := a14) rfl rfl ha) hk k
theorem r_lstore15 {a0 a1 a2 a3 a4 a5 a6 a7 a8 a9 a10 a11 a12 a13 a14 : Option Value} {z z' : Option Value} {t : List (Option Value)} {x : Int64} (hd : decode μ.2.1 pc = .ok (.lstore 15, 2)) (k : fp_W X μ (pc + 2) (a0 :: a1 :: a2 :: a3 :: a4 :: a5 :: a6 :: a7 :: a8 :: a9 :: a10 :: a11 :: a12 :: a13 :: a14 :: some (.long x) :: none :: t) st sh M nc ns Post) (ha : fp_nl a14 = true := by rfl) : fp_W X μ pc (a0 :: a1 :: a2 :: a3 :: a4 :: a5 :: a6 :: a7 :: a8 :: a9 :: a10 :: a11 :: a12 :: a13 :: a14 :: z :: z' :: t) (.long x :: st) sh M nc ns Post := r_lstoreG hd (by show 15 + 1 < _; simp; try omega) (fp_hp (n := 14) (a := a14) rfl rfl ha) k
theorem r_iinc15 {a0 a1 a2 a3 a4 a5 a6 a7 a8 a9 a10 a11 a12 a13 a14 : Option Value} {t : List (Option Value)} {x : Int32} {i : Int} (d : Int32) (hd : decode μ.2.1 pc = .ok (.iinc 15 i, 3)) (k : fp_W X μ (pc + 3) (a0 :: a1 :: a2 :: a3 :: a4 :: a5 :: a6 :: a7 :: a8 :: a9 :: a10 :: a11 :: a12 :: a13 :: a14 :: some (.int (x + d)) :: t) st sh M nc ns Post) (hv : Int32.ofInt i = d := by decide) (ha : fp_nl a14 = true := by rfl) : fp_W X μ pc (a0 :: a1 :: a2 :: a3 :: a4 :: a5 :: a6 :: a7 :: a8 :: a9 :: a10 :: a11 :: a12 :: a13 :: a14 :: some (.int x) :: t) st sh M nc ns Post := r_iincG hd rfl (by rw [hv]) (fp_hp (n := 14) (a := a14) rfl rfl ha) k
theorem r_dup {v : Value} (hd : decode μ.2.1 pc = .ok (.dup, 1)) (k : fp_W X μ (pc + 1) ls (v :: v :: st) sh M nc ns Post) (hv : v.category = 1 := by rfl) : fp_W X μ pc ls (v :: st) sh M nc ns Post := by
  intro p l e s m args below meth c D cs cv base A Q H locs lsA hF hH hL hN hret
  exact lv_dup hF.1 hF.2.1 hd (by rw [fp_cat cv hF.2.2.2.2.2.2.2.2.2.2.1.2]; exact hv) (k p l e s m args below meth c D cs cv base A Q H locs lsA hF hH hL hN hret)
theorem r_dup2 {v w : Value} (hd : decode μ.2.1 pc = .ok (.dup2, 1)) (k : fp_W X μ (pc + 1) ls (v :: w :: v :: w :: st) sh M nc ns Post) (hv : v.category = 1 := by rfl) (hw : w.category = 1 := by rfl) : fp_W X μ pc ls (v :: w :: st) sh M nc ns Post := by
  intro p l e s m args below meth c D cs cv base A Q H locs lsA hF hH hL hN hret
  exact lv_dup2_11 hF.1 hF.2.1 hd (by rw [fp_cat cv hF.2.2.2.2.2.2.2.2.2.2.1.2]; exact hv) (by rw [fp_cat cv hF.2.2.2.2.2.2.2.2.2.2.1.2]; exact hw) (k p l e s m args below meth c D cs cv base A Q H locs lsA hF hH hL hN hret)
theorem r_pop {v : Value} (hd : decode μ.2.1 pc = .ok (.pop, 1)) (k : fp_W X μ (pc + 1) ls st sh M nc ns Post) (hv : v.category = 1 := by rfl) : fp_W X μ pc ls (v :: st) sh M nc ns Post := by
  intro p l e s m args below meth c D cs cv base A Q H locs lsA hF hH hL hN hret
  exact lv_pop hF.1 hF.2.1 hd (by rw [fp_cat cv hF.2.2.2.2.2.2.2.2.2.2.1.2]; exact hv) (k p l e s m args below meth c D cs cv base A Q H locs lsA hF hH hL hN hret)
theorem r_if_eq (tgt : Nat) {x : Int32} {off : Int} (hd : decode μ.2.1 pc = .ok (.ifCond .eq off, 3)) (kt : x = 0 → fp_W X μ tgt ls st sh M nc ns Post) (kf : ¬ x = 0 → fp_W X μ (pc + 3) ls st sh M nc ns Post) (ht : (pc : Int) + off = (tgt : Int) := by decide) : fp_W X μ pc ls (.int x :: st) sh M nc ns Post := by
  intro p l e s m args below meth c D cs cv base A Q H locs lsA hF hH hL hN hret
  exact lv_if_eq hF.1 hF.2.1 hd ht (fun h => kt h p l e s m args below meth c D cs cv base A Q H locs lsA hF hH hL hN hret) (fun h => kf h p l e s m args below meth c D cs cv base A Q H locs lsA hF hH hL hN hret)
theorem r_icmp_eq (tgt : Nat) {x y : Int32} {off : Int} (hd : decode μ.2.1 pc = .ok (.if_icmp .eq off, 3)) (kt : x = y → fp_W X μ tgt ls st sh M nc ns Post) (kf : ¬ x = y → fp_W X μ (pc + 3) ls st sh M nc ns Post) (ht : (pc : Int) + off = (tgt : Int) := by decide) : fp_W X μ pc ls (.int y :: .int x :: st) sh M nc ns Post := by
  intro p l e s m args below meth c D cs cv base A Q H locs lsA hF hH hL hN hret
  exact lv_icmp_eq hF.1 hF.2.1 hd ht (fun h => kt h p l e s m args below meth c D cs cv base A Q H locs lsA hF hH hL hN hret) (fun h => kf h p l e s m args below meth c D cs cv base A Q H locs lsA hF hH hL hN hret)
theorem r_if_ne (tgt : Nat) {x : Int32} {off : Int} (hd : decode μ.2.1 pc = .ok (.ifCond .ne off, 3)) (kt : ¬ x = 0 → fp_W X μ tgt ls st sh M nc ns Post) (kf : x = 0 → fp_W X μ (pc + 3) ls st sh M nc ns Post) (ht : (pc : Int) + off = (tgt : Int) := by decide) : fp_W X μ pc ls (.int x :: st) sh M nc ns Post := by
  intro p l e s m args below meth c D cs cv base A Q H locs lsA hF hH hL hN hret
  exact lv_if_ne hF.1 hF.2.1 hd ht (fun h => kt h p l e s m args below meth c D cs cv base A Q H locs lsA hF hH hL hN hret) (fun h => kf h p l e s m args below meth c D cs cv base A Q H locs lsA hF hH hL hN hret)
theorem r_icmp_ne (tgt : Nat) {x y : Int32} {off : Int} (hd : decode μ.2.1 pc = .ok (.if_icmp .ne off, 3)) (kt : ¬ x = y → fp_W X μ tgt ls st sh M nc ns Post) (kf : x = y → fp_W X μ (pc + 3) ls st sh M nc ns Post) (ht : (pc : Int) + off = (tgt : Int) := by decide) : fp_W X μ pc ls (.int y :: .int x :: st) sh M nc ns Post := by
  intro p l e s m args below meth c D cs cv base A Q H locs lsA hF hH hL hN hret
  exact lv_icmp_ne hF.1 hF.2.1 hd ht (fun h => kt h p l e s m args below meth c D cs cv base A Q H locs lsA hF hH hL hN hret) (fun h => kf h p l e s m args below meth c D cs cv base A Q H locs lsA hF hH hL hN hret)
theorem r_if_lt (tgt : Nat) {x : Int32} {off : Int} (hd : decode μ.2.1 pc = .ok (.ifCond .lt off, 3)) (kt : x < 0 → fp_W X μ tgt ls st sh M nc ns Post) (kf : ¬ x < 0 → fp_W X μ (pc + 3) ls st sh M nc ns Post) (ht : (pc : Int) + off = (tgt : Int) := by decide) : fp_W X μ pc ls (.int x :: st) sh M nc ns Post := by
  intro p l e s m args below meth c D cs cv base A Q H locs lsA hF hH hL hN hret
  exact lv_if_lt hF.1 hF.2.1 hd ht (fun h => kt h p l e s m args below meth c D cs cv base A Q H locs lsA hF hH hL hN hret) (fun h => kf h p l e s m args below meth c D cs cv base A Q H locs lsA hF hH hL hN hret)
theorem r_icmp_lt (tgt : Nat) {x y : Int32} {off : Int} (hd : decode μ.2.1 pc = .ok (.if_icmp .lt off, 3)) (kt : x < y → fp_W X μ tgt ls st sh M nc ns Post) (kf : ¬ x < y → fp_W X μ (pc + 3) ls st sh M nc ns Post) (ht : (pc : Int) + off = (tgt : Int) := by decide) : fp_W X μ pc ls (.int y :: .int x :: st) sh M nc ns Post := by
  intro p l e s m args below meth c D cs cv base A Q H locs lsA hF hH hL hN hret
  exact lv_icmp_lt hF.1 hF.2.1 hd ht (fun h => kt h p l e s m args below meth c D cs cv base A Q H locs lsA hF hH hL hN hret) (fun h => kf h p l e s m args below meth c D cs cv base A Q H locs lsA hF hH hL hN hret)
theorem r_if_ge (tgt : Nat) {x : Int32} {off : Int} (hd : decode μ.2.1 pc = .ok (.ifCond .ge off, 3)) (kt : 0 ≤ x → fp_W X μ tgt ls st sh M nc ns Post) (kf : ¬ 0 ≤ x → fp_W X μ (pc + 3) ls st sh M nc ns Post) (ht : (pc : Int) + off = (tgt : Int) := by decide) : fp_W X μ pc ls (.int x :: st) sh M nc ns Post := by
  intro p l e s m args below meth c D cs cv base A Q H locs lsA hF hH hL hN hret
  exact lv_if_ge hF.1 hF.2.1 hd ht (fun h => kt h p l e s m args below meth c D cs cv base A Q H locs lsA hF hH hL hN hret) (fun h => kf h p l e s m args below meth c D cs cv base A Q H locs lsA hF hH hL hN hret)
theorem r_icmp_ge (tgt : Nat) {x y : Int32} {off : Int} (hd : decode μ.2.1 pc = .ok (.if_icmp .ge off, 3)) (kt : y ≤ x → fp_W X μ tgt ls st sh M nc ns Post) (kf : ¬ y ≤ x → fp_W X μ (pc + 3) ls st sh M nc ns Post) (ht : (pc : Int) + off = (tgt : Int) := by decide) : fp_W X μ pc ls (.int y :: .int x :: st) sh M nc ns Post := by
  intro p l e s m args below meth c D cs cv base A Q H locs lsA hF hH hL hN hret
  exact lv_icmp_ge hF.1 hF.2.1 hd ht (fun h => kt h p l e s m args below meth c D cs cv base A Q H locs lsA hF hH hL hN hret) (fun h => kf h p l e s m args below meth c D cs cv base A Q H locs lsA hF hH hL hN hret)
theorem r_if_gt (tgt : Nat) {x : Int32} {off : Int} (hd : decode μ.2.1 pc = .ok (.ifCond .gt off, 3)) (kt : 0 < x → fp_W X μ tgt ls st sh M nc ns Post) (kf : ¬ 0 < x → fp_W X μ (pc + 3) ls st sh M nc ns Post) (ht : (pc : Int) + off = (tgt : Int) := by decide) : fp_W X μ pc ls (.int x :: st) sh M nc ns Post := by
  intro p l e s m args below meth c D cs cv base A Q H locs lsA hF hH hL hN hret
  exact lv_if_gt hF.1 hF.2.1 hd ht (fun h => kt h p l e s m args below meth c D cs cv base A Q H locs lsA hF hH hL hN hret) (fun h => kf h p l e s m args below meth c D cs cv base A Q H locs lsA hF hH hL hN hret)
theorem r_icmp_gt (tgt : Nat) {x y : Int32} {off : Int} (hd : decode μ.2.1 pc = .ok (.if_icmp .gt off, 3)) (kt : y < x → fp_W X μ tgt ls st sh M nc ns Post) (kf : ¬ y < x → fp_W X μ (pc + 3) ls st sh M nc ns Post) (ht : (pc : Int) + off = (tgt : Int) := by decide) : fp_W X μ pc ls (.int y :: .int x :: st) sh M nc ns Post := by
  intro p l e s m args below meth c D cs cv base A Q H locs lsA hF hH hL hN hret
  exact lv_icmp_gt hF.1 hF.2.1 hd ht (fun h => kt h p l e s m args below meth c D cs cv base A Q H locs lsA hF hH hL hN hret) (fun h => kf h p l e s m args below meth c D cs cv base A Q H locs lsA hF hH hL hN hret)
theorem r_if_le (tgt : Nat) {x : Int32} {off : Int} (hd : decode μ.2.1 pc = .ok (.ifCond .le off, 3)) (kt : x ≤ 0 → fp_W X μ tgt ls st sh M nc ns Post) (kf : ¬ x ≤ 0 → fp_W X μ (pc + 3) ls st sh M nc ns Post) (ht : (pc : Int) + off = (tgt : Int) := by decide) : fp_W X μ pc ls (.int x :: st) sh M nc ns Post := by
  intro p l e s m args below meth c D cs cv base A Q H locs lsA hF hH hL hN hret
  exact lv_if_le hF.1 hF.2.1 hd ht (fun h => kt h p l e s m args below meth c D cs cv base A Q H locs lsA hF hH hL hN hret) (fun h => kf h p l e s m args below meth c D cs cv base A Q H locs lsA hF hH hL hN hret)
theorem r_icmp_le (tgt : Nat) {x y : Int32} {off : Int} (hd : decode μ.2.1 pc = .ok (.if_icmp .le off, 3)) (kt : x ≤ y → fp_W X μ tgt ls st sh M nc ns Post) (kf : ¬ x ≤ y → fp_W X μ (pc + 3) ls st sh M nc ns Post) (ht : (pc : Int) + off = (tgt : Int) := by decide) : fp_W X μ pc ls (.int y :: .int x :: st) sh M nc ns Post := by
  intro p l e s m args below meth c D cs cv base A Q H locs lsA hF hH hL hN hret
  exact lv_icmp_le hF.1 hF.2.1 hd ht (fun h => kt h p l e s m args below meth c D cs cv base A Q H locs lsA hF hH hL hN hret) (fun h => kf h p l e s m args below meth c D cs cv base A Q H locs lsA hF hH hL hN hret)
theorem r_goto (tgt : Nat) {off : Int} (hd : decode μ.2.1 pc = .ok (.goto off, 3)) (k : fp_W X μ tgt ls st sh M nc ns Post) (ht : (pc : Int) + off = (tgt : Int) := by decide) : fp_W X μ pc ls st sh M nc ns Post := by
  intro p l e s m args below meth c D cs cv base A Q H locs lsA hF hH hL hN hret
  exact lv_goto hF.1 hF.2.1 hd ht (k p l e s m args below meth c D cs cv base A Q H locs lsA hF hH hL hN hret)
theorem r_tblIn (tgt : Nat) {dflt lo hi off : Int} {offs : Array Int} {len : Nat} {x K : Int32} (hx : x = K) (hd : decode μ.2.1 pc = .ok (.tableswitch dflt lo hi offs, len)) (k : fp_W X μ tgt ls st sh M nc ns Post) (h1 : ¬ K.toInt < lo := by decide) (h2 : ¬ hi < K.toInt := by decide) (ho : offs[(K.toInt - lo).toNat]? = some off := by rfl) (ht : (pc : Int) + off = (tgt : Int) := by decide) : fp_W X μ pc ls (.int x :: st) sh M nc ns Post := by
  intro p l e s m args below meth c D cs cv base A Q H locs lsA hF hH hL hN hret
  subst hx
  exact lv_tableIn hF.1 hF.2.1 hd h1 h2 ho ht (k p l e s m args below meth c D cs cv base A Q H locs lsA hF hH hL hN hret)
theorem r_tblOut (tgt : Nat) {dflt lo hi : Int} {offs : Array Int} {len : Nat} {x : Int32} (hd : decode μ.2.1 pc = .ok (.tableswitch dflt lo hi offs, len)) (hx : x.toInt < lo ∨ hi < x.toInt) (k : fp_W X μ tgt ls st sh M nc ns Post) (ht : (pc : Int) + dflt = (tgt : Int) := by decide) : fp_W X μ pc ls (.int x :: st) sh M nc ns Post := by
  intro p l e s m args below meth c D cs cv base A Q H locs lsA hF hH hL hN hret
  exact lv_tableOut hF.1 hF.2.1 hd hx ht (k p l e s m args below meth c D cs cv base A Q H locs lsA hF hH hL hN hret)
theorem r_iret {v : Int32} {t : FieldType} (hd : decode μ.2.1 pc = .ok (.ireturn, 1)) (hp : Post (some (.int v)) sh M) (ht : μ.2.2.2.1 = some t := by rfl) (hn : narrow t (.int v) = .int v := by rfl) : fp_W X μ pc ls [.int v] sh M nc ns Post := by
  intro p l e s m args below meth c D cs cv base A Q H locs lsA hF hH hL hN hret
  exact hret .ireturn (some (.int v)) pc lsA sh M H locs nc ns hd (Or.inl ⟨rfl, v, t, ht, hn, rfl⟩) hN hp hH
theorem r_lret {v : Int64} (hd : decode μ.2.1 pc = .ok (.lreturn, 1)) (hp : Post (some (.long v)) sh M) (ht : μ.2.2.2.1 = some .long := by rfl) : fp_W X μ pc ls [.long v] sh M nc ns Post := by
  intro p l e s m args below meth c D cs cv base A Q H locs lsA hF hH hL hN hret
  exact hret .lreturn (some (.long v)) pc lsA sh M H locs nc ns hd (Or.inr (Or.inl ⟨rfl, ht, v, rfl⟩)) hN hp hH
theorem r_aret {k : Nat} {t : String} (hd : decode μ.2.1 pc = .ok (.areturn, 1)) (hp : Post (some (.ref k)) sh M) (h1 : 100 ≤ k := by decide) (h2 : k < 112 := by decide) (ht : μ.2.2.2.1 = some (.object t) := by rfl) : fp_W X μ pc ls [.ref k] sh M nc ns Post := by
  intro p l e s m args below meth c D cs cv base A Q H locs lsA hF hH hL hN hret
  exact hret .areturn (some (.ref k)) pc lsA sh M H locs nc ns hd (Or.inr (Or.inr (Or.inl ⟨rfl, k, t, ht, h1, h2, rfl⟩))) hN hp hH
theorem r_vret (hd : decode μ.2.1 pc = .ok (.return_, 1)) (hp : Post none sh M) (ht : μ.2.2.2.1 = none := by rfl) : fp_W X μ pc ls [] sh M nc ns Post := by
  intro p l e s m args below meth c D cs cv base A Q H locs lsA hF hH hL hN hret
  exact hret .return_ none pc lsA sh M H locs nc ns hd (Or.inr (Or.inr (Or.inr ⟨rfl, ht, rfl⟩))) hN hp hH
end FPR
end
section
/-! ===== rows of the calculus that touch cells ===== -/
/-- a number written -/
def fp_wr (M : fp_M) (k j : Nat) (v : Int32) : fp_M := fun k' j' => if k' = k ∧ j' = j then v else M k' j'
/-- a new cell's numbers -/
def fp_z (M : fp_M) (k : Nat) : fp_M := fun k' j' => if k' = k then 0 else M k' j'
/-- a stretch copied -/
def fp_cp (M : fp_M) (k0 sp k1 dp n : Nat) : fp_M := fun k j => if k = k1 then va_cpy (M k0) (M k1) sp dp n j else M k j
theorem fp_wr_row {M : fp_M} {k j q : Nat} {v : Int32} (h : q ≠ k) : fp_wr M k j v q = M q := by
  funext i
  unfold fp_wr
  rw [if_neg (fun e => h e.1)]
theorem fp_wr_self (M : fp_M) (k j : Nat) (v : Int32) : fp_wr M k j v k = upd (M k) j v := by
  funext i
  unfold fp_wr upd
  by_cases h : i = j
  · rw [if_pos ⟨rfl, h⟩, if_pos h]
  · rw [if_neg (fun e => h e.2), if_neg h]
theorem fp_z_row {M : fp_M} {k q : Nat} (h : q ≠ k) : fp_z M k q = M q := by
  funext i
  unfold fp_z
  rw [if_neg h]
theorem fp_cp_row {M : fp_M} {k0 sp k1 dp n q : Nat} (h : q ≠ k1) : fp_cp M k0 sp k1 dp n q = M q := by
  funext i
  unfold fp_cp
  rw [if_neg h]
/-- a class of ours, by its number: its words are words for all -/
def fp_cl (ci : Nat) (C : String) (T : u_T) (N : Nat) (ty : Nat → FieldType) : Prop := vwCl[ci]? = some (C, T, N) ∧ (∀ w ∈ u_ws C T N, w ∈ fp_tbl) ∧ (∀ k, k < N → parseFieldDescriptor (T k).2.2.1 = some (ty k)) ∧ (∀ a, a < N → ∀ b, b < N → a ≠ b → (T a).2.1 ≠ (T b).2.1)
/-- a field, by its class and place, at an entry of own's pool -/
def fp_fl (own : String) (idx ci j : Nat) (fty : FieldType) (fin : Bool) : Prop := ∃ (C : String) (T : u_T) (N : Nat) (ty : Nat → FieldType), fp_cl ci C T N ty ∧ j < N ∧ Cond.fieldLink own idx (T j).1 (T j).2.1 (T j).2.2.1 ∈ fp_tbl ∧ ty j = fty ∧ (T j).2.2.2 = fin ∧ (T j).1 = C
theorem fp_fs_at {base : Nat} {M : fp_M} {k j : Nat} {fs : List (Option (Option Nat))} {f : Option (Option Nat)} (h : fs[j]? = some f) : (fs.zipIdx.map (fp_fv base M k))[j]? = some (fp_fv base M k (f, j)) := by
  rw [List.getElem?_map, List.getElem?_zipIdx, h]
  simp
theorem fp_fs_set {base : Nat} {M : fp_M} {k j : Nat} {v : Int32} {fs : List (Option (Option Nat))} (h : fs[j]? = some none) : (fs.zipIdx.map (fp_fv base M k)).set j (.int v) = fs.zipIdx.map (fp_fv base (fp_wr M k j v) k) := by
  refine List.ext_getElem? fun i => ?_
  have hlt : j < fs.length := (List.getElem?_eq_some_iff.mp h).1
  rw [List.getElem?_set, List.getElem?_map, List.getElem?_map, List.getElem?_zipIdx]
  by_cases hi : j = i
  · subst hi
    rw [if_pos rfl, if_pos (by simp; exact hlt), h]
    simp [fp_fv, fp_wr]
  · rw [if_neg hi]
    cases hf : fs[i]? with
    | none => rfl
    | some f =>
      rcases f with _ | _ | r
      · simp only [Option.map_some, Nat.zero_add]
        show some (Value.int (M k i)) = some (Value.int (fp_wr M k j v k i))
        unfold fp_wr
        rw [if_neg (fun e => hi e.2.symm)]
      · rfl
      · rfl
theorem fp_fs_setr {base : Nat} {M : fp_M} {k j r : Nat} {fs : List (Option (Option Nat))} (hlt : j < fs.length) : (fs.zipIdx.map (fp_fv base M k)).set j (.ref (base + r)) = (fs.set j (some (some r))).zipIdx.map (fp_fv base M k) := by
  refine List.ext_getElem? fun i => ?_
  rw [List.getElem?_set, List.getElem?_map, List.getElem?_map, List.getElem?_zipIdx, List.getElem?_zipIdx, List.getElem?_set]
  by_cases hi : j = i
  · subst hi
    rw [if_pos rfl, if_pos (by simp; exact hlt), if_pos rfl, if_pos hlt]
    rfl
  · rw [if_neg hi, if_neg hi]
section FPM
variable {X : fp_X} {μ : fp_Y} {pc : Nat} {ls : List (Option Value)} {st : List Value} {sh : List fp_C} {M : fp_M} {nc ns : Nat} {Post : fp_Q}
theorem r_getfi {idx ci j k : Nat} {fty : FieldType} {fin : Bool} {fs : List (Option (Option Nat))} (hd : decode μ.2.1 pc = .ok (.getfield idx, 3)) (hf : fp_fl μ.1.cls idx ci j fty fin) (hs : sh[k]? = some (.inl (ci, fs))) (hj : fs[j]? = some none) (g : fp_W X μ (pc + 3) ls (.int (M k j) :: st) sh M nc ns Post) : fp_W X μ pc ls (.ref k :: st) sh M nc ns Post := by
  intro p l e s m args below meth c D cs cv base A Q H locs lsA hF hH hL hN hret
  obtain ⟨hx, hb, hr, hml, hown, hts, hlk, hin, hK, hA, hcv, hR⟩ := id hF
  obtain ⟨C, T, N, ty, ⟨h1, h3, -, -⟩, h2, h4, -⟩ := hf
  have hk : k < 100 := Nat.lt_of_lt_of_le (List.getElem?_eq_some_iff.mp hs).1 hH.2.2.2.2
  have ev : fp_v cv (.ref k) = .ref (base + k) := hcv.1 k hk
  rw [List.map_cons, ev]
  exact va_get (D := D) (ci := ci) (v := .int (M k j)) (C := C) (T := T) (N := N) hx hb hts h3 hown hK hH.1 k (fp_w_some hs) h1 j h2 (hts _ h4) (fun _ h9 => h9) (fp_fs_at hj) hd (g p l e s m args below meth c D cs cv base A Q H locs lsA hF hH hL hN hret)
theorem r_getfr {idx ci j k r : Nat} {fty : FieldType} {fin : Bool} {fs : List (Option (Option Nat))} (hd : decode μ.2.1 pc = .ok (.getfield idx, 3)) (hf : fp_fl μ.1.cls idx ci j fty fin) (hs : sh[k]? = some (.inl (ci, fs))) (hj : fs[j]? = some (some (some r))) (g : fp_W X μ (pc + 3) ls (.ref r :: st) sh M nc ns Post) (hr0 : r < 100 := by decide) : fp_W X μ pc ls (.ref k :: st) sh M nc ns Post := by
  intro p l e s m args below meth c D cs cv base A Q H locs lsA hF hH hL hN hret
  obtain ⟨hx, hb, hr, hml, hown, hts, hlk, hin, hK, hA, hcv, hR⟩ := id hF
  obtain ⟨C, T, N, ty, ⟨h1, h3, -, -⟩, h2, h4, -⟩ := hf
  have hk : k < 100 := Nat.lt_of_lt_of_le (List.getElem?_eq_some_iff.mp hs).1 hH.2.2.2.2
  have ev : fp_v cv (.ref k) = .ref (base + k) := hcv.1 k hk
  have er : fp_v cv (.ref r) = .ref (base + r) := hcv.1 r hr0
  have hg := g p l e s m args below meth c D cs cv base A Q H locs lsA hF hH hL hN hret
  rw [List.map_cons, er] at hg
  rw [List.map_cons, ev]
  exact va_get (D := D) (ci := ci) (v := .ref (base + r)) (C := C) (T := T) (N := N) hx hb hts h3 hown hK hH.1 k (fp_w_some hs) h1 j h2 (hts _ h4) (fun _ h9 => h9) (fp_fs_at hj) hd hg
/-- a number goes into a field -/
theorem r_putfi {idx ci j k : Nat} {v : Int32} {fty : FieldType} {fs : List (Option (Option Nat))} (hd : decode μ.2.1 pc = .ok (.putfield idx, 3)) (hf : fp_fl μ.1.cls idx ci j fty false) (hs : sh[k]? = some (.inl (ci, fs))) (hj : fs[j]? = some none) (g : fp_W X μ (pc + 3) ls st sh (fp_wr M k j v) nc ns Post) (hn : narrow fty (.int v) = .int v := by rfl) (hfit : fits fty (.int v) = true := by rfl) : fp_W X μ pc ls (.int v :: .ref k :: st) sh M nc ns Post := by
  intro p l e s m args below meth c D cs cv base A Q H locs lsA hF hH hL hN hret
  obtain ⟨hx, hb, hr, hml, hown, hts, hlk, hin, hK, hA, hcv, hR⟩ := id hF
  obtain ⟨C, T, N, ty, ⟨h1, h3, h5, h6⟩, h2, h4, h7, h8, -⟩ := hf
  obtain ⟨hP, hD, hS0, hsz, hcap⟩ := hH
  have hlt := (List.getElem?_eq_some_iff.mp hs).1
  have hk : k < 100 := Nat.lt_of_lt_of_le hlt hcap
  have ev : fp_v cv (.ref k) = .ref (base + k) := hcv.1 k hk
  rw [List.map_cons, List.map_cons, ev]
  have he := fp_w_some (cs := cs) (base := base) (M := M) hs
  have hap := va_apart (own := μ.1.cls) hts h3 ty h5 h6 hK h1
  obtain ⟨r, g1, cell, q1, q2, q3, q4⟩ := hP k _ he
  have hrr : r = (C, T, N) := Option.some.inj (g1.symm.trans h1)
  subst hrr
  obtain ⟨hS, hfc, kC, hkC, hkind⟩ := hK.1 ci _ h1
  obtain ⟨cf, kf, fi, f, hi, hsl⟩ := hS j h2
  have hlay := hts _ (h3 _ (u_in_lay h2))
  unfold u_lay at hlay
  rw [if_neg (by rw [h8]; decide)] at hlay
  have hst := (u_facts hfc hkC (u_lays hts h3 h2) hi).1
  have h9 := u_store hfc hkC hkind hlay hi ((h5 j h2).trans (by rw [h7])) hn hfit
  refine W.putK hx hb (f := f) ⟨hown, hts _ h4, ⟨_, _, _, hi⟩, hst⟩ (by rw [q2]; exact h9) q1 q3 (by rw [hsl]; exact k2_hasslot (q4 j h2)) rfl rfl hd fun H' e1 e2 e3 => ?_
  rw [hsl] at e1 ⊢
  have hl2 : j < (fs.zipIdx.map (fp_fv base M k)).length := by simp; exact (List.getElem?_eq_some_iff.mp hj).1
  have hnew : va_at D vwCl (base + k, .inr (ci, (fs.zipIdx.map (fp_fv base M k)).set j (.int v))) H' := ⟨_, h1, t_OB.to (V := updV (vp_V (fs.zipIdx.map (fp_fv base M k))) j (.int v)) ⟨_, e1, q2, q3, t_set q4 hap h2 (.int v)⟩ (fun i _ => vp_updV_set hl2 (.int v) i)⟩
  have hw : (fp_w cs base sh M).set k (base + k, .inr (ci, (fs.zipIdx.map (fp_fv base M k)).set j (.int v))) = fp_w cs base sh (fp_wr M k j v) := by
    rw [fp_fs_set hj]
    have := fp_w_set (cs := cs) (base := base) (sh := sh) (M := M) (M' := fp_wr M k j v) (k := k) (c := .inl (ci, fs)) hlt (fun q hq => fp_wr_row hq)
    rw [fp_set_self hs] at this
    exact this
  refine g p l e s m args below meth c D cs cv base A Q H' _ lsA hF ⟨?_, ?_, hS0.put e2 e3 (hD.2 k _ he), by rw [e2]; exact hsz, hcap⟩ hL hN hret
  · rw [← hw]
    exact hP.set hD he hnew e3
  · rw [← hw]
    exact hD.set he
/-- a place goes into a final field, in a constructor -/
theorem r_putfr {idx ci j k r : Nat} {fty : FieldType} {fs : List (Option (Option Nat))} (hd : decode μ.2.1 pc = .ok (.putfield idx, 3)) (hf : fp_fl μ.1.cls idx ci j fty true) (hs : sh[k]? = some (.inl (ci, fs))) (hj : j < fs.length) (hr0 : r < 100) (hi0 : μ.1.name = "<init>") (hc0 : (vwCl[ci]?).map (fun q => q.1) = some μ.1.cls) (g : fp_W X μ (pc + 3) ls st (sh.set k (.inl (ci, fs.set j (some (some r))))) M nc ns Post) (hn : ∀ a : Nat, narrow fty (.ref a) = .ref a := by intro a; rfl) (hfit : ∀ a : Nat, fits fty (.ref a) = true := by intro a; rfl) : fp_W X μ pc ls (.ref r :: .ref k :: st) sh M nc ns Post := by
  intro p l e s m args below meth c D cs cv base A Q H locs lsA hF hH hL hN hret
  obtain ⟨hx, hb, hr, hml, hown, hts, hlk, hin, hK, hA, hcv, hR⟩ := id hF
  obtain ⟨C, T, N, ty, ⟨h1, h3, h5, h6⟩, h2, h4, h7, h8, h10⟩ := hf
  obtain ⟨hP, hD, hS0, hsz, hcap⟩ := hH
  have hlt := (List.getElem?_eq_some_iff.mp hs).1
  have hk : k < 100 := Nat.lt_of_lt_of_le hlt hcap
  have ev : fp_v cv (.ref k) = .ref (base + k) := hcv.1 k hk
  have er : fp_v cv (.ref r) = .ref (base + r) := hcv.1 r hr0
  rw [List.map_cons, List.map_cons, ev, er]
  have hdecl : (T j).1 = μ.1.cls := by
    rw [h1] at hc0
    rw [h10]
    exact Option.some.inj hc0
  have he := fp_w_some (cs := cs) (base := base) (M := M) hs
  have hap := va_apart (own := μ.1.cls) hts h3 ty h5 h6 hK h1
  obtain ⟨r', g1, cell, q1, q2, q3, q4⟩ := hP k _ he
  have hrr : r' = (C, T, N) := Option.some.inj (g1.symm.trans h1)
  subst hrr
  obtain ⟨hS, hfc, kC, hkC, hkind⟩ := hK.1 ci _ h1
  obtain ⟨cf, kf, fi, f, hi, hsl⟩ := hS j h2
  have hlay := hts _ (h3 _ (u_in_lay h2))
  unfold u_lay at hlay
  rw [if_pos h8] at hlay
  have hst := (u_facts hfc hkC (u_lays hts h3 h2) hi).1
  have hcf : m.cls = cf := by
    obtain ⟨_, _, c', _, _, _, -, -, hf', -, -, -, hown2, -⟩ := Cond.laysFinal_spec hlay
    have e1 : c' = cf := by have := hi.symm.trans hf'; simp at this; exact this.1.symm
    rw [hdecl] at hown2
    rw [← e1]; exact Option.some.inj (hown.symm.trans hown2)
  have h9 := u_fits hfc hkC hkind (Or.inr hlay) hi ((h5 j h2).trans (by rw [h7])) (hn (base + r)) (hfit (base + r))
  refine W.putFinK hx hb hown (hts _ h4) hi hst hcf (hin hi0) (by rw [q2]; exact h9) q1 q3 (by rw [hsl]; exact k2_hasslot (q4 j h2)) rfl rfl hd fun H' e1 e2 e3 => ?_
  rw [hsl] at e1 ⊢
  have hl2 : j < (fs.zipIdx.map (fp_fv base M k)).length := by simp; exact hj
  have hnew : va_at D vwCl (base + k, .inr (ci, (fs.zipIdx.map (fp_fv base M k)).set j (.ref (base + r)))) H' := ⟨_, h1, t_OB.to (V := updV (vp_V (fs.zipIdx.map (fp_fv base M k))) j (.ref (base + r))) ⟨_, e1, q2, q3, t_set q4 hap h2 (.ref (base + r))⟩ (fun i _ => vp_updV_set hl2 (.ref (base + r)) i)⟩
  have hw : (fp_w cs base sh M).set k (base + k, .inr (ci, (fs.zipIdx.map (fp_fv base M k)).set j (.ref (base + r)))) = fp_w cs base (sh.set k (.inl (ci, fs.set j (some (some r))))) M := by
    rw [fp_fs_setr hj]
    exact fp_w_set (cs := cs) (base := base) (sh := sh) (M := M) (M' := M) (k := k) (c := .inl (ci, fs.set j (some (some r)))) hlt (fun q hq => rfl)
  refine g p l e s m args below meth c D cs cv base A Q H' _ lsA hF ⟨?_, ?_, hS0.put e2 e3 (hD.2 k _ he), by rw [e2, List.length_set]; exact hsz, by rw [List.length_set]; exact hcap⟩ hL hN hret
  · rw [← hw]
    exact hP.set hD he hnew e3
  · rw [← hw]
    exact hD.set he
theorem r_iald {k n : Nat} {i : Int32} (hd : decode μ.2.1 pc = .ok (.iaload, 1)) (hs : sh[k]? = some (.inr (.inl n))) (hi : vp_in i n) (g : fp_W X μ (pc + 1) ls (.int (M k i.toNatClampNeg) :: st) sh M nc ns Post) : fp_W X μ pc ls (.int i :: .ref k :: st) sh M nc ns Post := by
  intro p l e s m args below meth c D cs cv base A Q H locs lsA hF hH hL hN hret
  obtain ⟨hx, hb, hr, hml, hown, hts, hlk, hin, hK, hA, hcv, hR⟩ := id hF
  have hk : k < 100 := Nat.lt_of_lt_of_le (List.getElem?_eq_some_iff.mp hs).1 hH.2.2.2.2
  have ev : fp_v cv (.ref k) = .ref (base + k) := hcv.1 k hk
  rw [List.map_cons, List.map_cons, ev]
  exact va_iald (f := M k) hx hb hK hH.1 k 0 (fp_w_some hs) rfl hi hd (g p l e s m args below meth c D cs cv base A Q H locs lsA hF hH hL hN hret)
theorem r_iast {k n : Nat} {i v : Int32} (hd : decode μ.2.1 pc = .ok (.iastore, 1)) (hs : sh[k]? = some (.inr (.inl n))) (hi : vp_in i n) (g : fp_W X μ (pc + 1) ls st sh (fp_wr M k i.toNatClampNeg v) nc ns Post) : fp_W X μ pc ls (.int v :: .int i :: .ref k :: st) sh M nc ns Post := by
  intro p l e s m args below meth c D cs cv base A Q H locs lsA hF hH hL hN hret
  obtain ⟨hx, hb, hr, hml, hown, hts, hlk, hin, hK, hA, hcv, hR⟩ := id hF
  obtain ⟨hP, hD, hS, hsz, hcap⟩ := hH
  have hlt := (List.getElem?_eq_some_iff.mp hs).1
  have hk : k < 100 := Nat.lt_of_lt_of_le hlt hcap
  have ev : fp_v cv (.ref k) = .ref (base + k) := hcv.1 k hk
  rw [List.map_cons, List.map_cons, List.map_cons, ev]
  have he := fp_w_some (cs := cs) (base := base) (M := M) hs
  have hw : (fp_w cs base sh M).set k (base + k, .inl (cs 0, n, .inl (upd (M k) i.toNatClampNeg v))) = fp_w cs base sh (fp_wr M k i.toNatClampNeg v) := by
    rw [← fp_wr_self]
    have := fp_w_set (cs := cs) (base := base) (sh := sh) (M := M) (M' := fp_wr M k i.toNatClampNeg v) (k := k) (c := .inr (.inl n)) hlt (fun q hq => fp_wr_row hq)
    rw [fp_set_self hs] at this
    exact this
  have ha : (fp_w cs base sh M)[k]? = some (base + k, .inl (cs 0, n, .inl (M k))) := he
  refine W.iast hx hb (hP k _ ha) ((hK.2 0 _ rfl).1 n (fun j => .int (M k j))) (fun q => by cases q) (by show ¬ (i < 0 ∨ (arrV _ _ _).slots.size ≤ _); rw [arrV_size]; exact hi) rfl rfl hd fun H1 e1 z oq => ?_
  have hnew : H1[base + k]? = some (vp_cell (cs 0) (n, .inl (upd (M k) i.toNatClampNeg v))) := by
    rw [e1]
    rw [vp_cell_i, vp_cell_i, arrV_store]
    congr 2
    funext q
    by_cases hq : q = i.toNatClampNeg
    · subst hq
      simp [updV, upd]
    · simp [updV, upd, hq]
  refine g p l e s m args below meth c D cs cv base A Q H1 _ lsA hF ⟨?_, ?_, hS.put z oq (hD.2 k _ ha), by rw [z]; exact hsz, hcap⟩ hL hN hret
  · rw [← hw]
    exact hP.set hD ha hnew oq
  · rw [← hw]
    exact hD.set ha
theorem r_aald {k t r : Nat} {rs : List (Option Nat)} {i : Int32} {C : String} (hd : decode μ.2.1 pc = .ok (.aaload, 1)) (hs : sh[k]? = some (.inr (.inr (t, rs)))) (hi : vp_in i rs.length) (hr0 : rs.getD i.toNatClampNeg none = some r) (hr1 : r < 100) (g : fp_W X μ (pc + 1) ls (.ref r :: st) sh M nc ns Post) (ht : (fp_tys (fun q => q))[t]? = some (t, .object C) := by rfl) : fp_W X μ pc ls (.int i :: .ref k :: st) sh M nc ns Post := by
  intro p l e s m args below meth c D cs cv base A Q H locs lsA hF hH hL hN hret
  obtain ⟨hx, hb, hr, hml, hown, hts, hlk, hin, hK, hA, hcv, hR⟩ := id hF
  have hk : k < 100 := Nat.lt_of_lt_of_le (List.getElem?_eq_some_iff.mp hs).1 hH.2.2.2.2
  have ev : fp_v cv (.ref k) = .ref (base + k) := hcv.1 k hk
  have er : fp_v cv (.ref r) = .ref (base + r) := hcv.1 r hr1
  have hg := g p l e s m args below meth c D cs cv base A Q H locs lsA hF hH hL hN hret
  rw [List.map_cons, er] at hg
  rw [List.map_cons, List.map_cons, ev]
  have htt : (fp_tys cs)[t]? = some (cs t, .object C) := by
    match t, ht with
    | 0, ht => cases ht
    | 1, ht => cases ht; rfl
    | 2, ht => cases ht; rfl
    | n + 3, ht => cases ht
  refine va_aldq (n := rs.length) (f := fun j => (rs.getD j none).map (fun r => base + r)) hx hb hK hH.1 k t (fp_w_some hs) htt hi hd ?_
  show W p l e μ.2.2.2.2 s m args below meth c H locs nc ns Q (F0 m (pc + 1) lsA (va_rf ((rs.getD i.toNatClampNeg none).map (fun r => base + r)) :: st.map (fp_v cv)))
  rw [hr0]
  exact hg
theorem r_alen {k n : Nat} (v : Int32) (hd : decode μ.2.1 pc = .ok (.arraylength, 1)) (hs : sh[k]? = some (.inr (.inl n))) (hv : Int32.ofNat n = v) (g : fp_W X μ (pc + 1) ls (.int v :: st) sh M nc ns Post) : fp_W X μ pc ls (.ref k :: st) sh M nc ns Post := by
  intro p l e s m args below meth c D cs cv base A Q H locs lsA hF hH hL hN hret
  obtain ⟨hx, hb, hr, hml, hown, hts, hlk, hin, hK, hA, hcv, hR⟩ := id hF
  have hk : k < 100 := Nat.lt_of_lt_of_le (List.getElem?_eq_some_iff.mp hs).1 hH.2.2.2.2
  have ev : fp_v cv (.ref k) = .ref (base + k) := hcv.1 k hk
  rw [List.map_cons, ev]
  exact va_alen (x := (n, .inl (M k))) (ty := .int) hx hb hK hH.1 k 0 (fp_w_some hs) rfl hv hd (g p l e s m args below meth c D cs cv base A Q H locs lsA hF hH hL hN hret)
/-- the script -/
theorem r_sld {i : Int32} (hd : decode μ.2.1 pc = .ok (.iaload, 1)) (hi : vp_in i X.1) (g : fp_W X μ (pc + 1) ls (.int (X.2 i.toNatClampNeg) :: st) sh M nc ns Post) : fp_W X μ pc ls (.int i :: .ref 150 :: st) sh M nc ns Post := by
  intro p l e s m args below meth c D cs cv base A Q H locs lsA hF hH hL hN hret
  obtain ⟨hx, hb, hr, hml, hown, hts, hlk, hin, hK, hA, hcv, hR⟩ := id hF
  obtain ⟨-, -, -, ⟨b, h1, h2, h3, h4⟩, -⟩ := hR
  have ev : fp_v cv (.ref 150) = .ref b := h1
  rw [List.map_cons, List.map_cons, ev]
  exact va_sld hx hb h3 h2 h4 hH.2.2.1 hi hd (g p l e s m args below meth c D cs cv base A Q H locs lsA hF hH hL hN hret)
theorem r_slen (hd : decode μ.2.1 pc = .ok (.arraylength, 1)) (g : fp_W X μ (pc + 1) ls (.int (Int32.ofNat X.1) :: st) sh M nc ns Post) : fp_W X μ pc ls (.ref 150 :: st) sh M nc ns Post := by
  intro p l e s m args below meth c D cs cv base A Q H locs lsA hF hH hL hN hret
  obtain ⟨hx, hb, hr, hml, hown, hts, hlk, hin, hK, hA, hcv, hR⟩ := id hF
  obtain ⟨-, -, -, ⟨b, h1, h2, h3, h4⟩, -⟩ := hR
  have ev : fp_v cv (.ref 150) = .ref b := h1
  rw [List.map_cons, ev]
  exact va_slen hx hb h3 h2 h4 hH.2.2.1 hd (g p l e s m args below meth c D cs cv base A Q H locs lsA hF hH hL hN hret)
/-- String constants -/
theorem r_ldcS {idx i : Nat} (hd : decode μ.2.1 pc = .ok (.ldc idx, 2)) (hi : i < 12) (ho : fp_so i = μ.1.cls) (hx0 : fp_si.getD i 0 = idx) (g : fp_W X μ (pc + 2) ls (.ref (100 + i) :: st) sh M nc ns Post) : fp_W X μ pc ls st sh M nc ns Post := by
  intro p l e s m args below meth c D cs cv base A Q H locs lsA hF hH hL hN hret
  obtain ⟨hx, hb, hr, hml, hown, hts, hlk, hin, hK, hA, hcv, hR⟩ := id hF
  obtain ⟨-, -, ⟨adK, adV, -, had, hvr⟩, -⟩ := hR
  have ev : fp_v cv (.ref (100 + i)) = .ref (adK i) := (had i hi).1
  have hg := g p l e s m args below meth c D cs cv base A Q H locs lsA hF hH hL hN hret
  rw [List.map_cons, ev] at hg
  have hv := hvr i hi
  rw [ho, hx0] at hv
  exact va_ldcS hx hb hown hv hd hg
theorem r_scoder {idx i : Nat} (hd : decode μ.2.1 pc = .ok (.getfield idx, 3)) (hl : Cond.fieldLink μ.1.cls idx "java/lang/String" "coder" "B" ∈ fp_tbl) (hi : i < 12) (g : fp_W X μ (pc + 3) ls (.int 0 :: st) sh M nc ns Post) : fp_W X μ pc ls (.ref (100 + i) :: st) sh M nc ns Post := by
  intro p l e s m args below meth c D cs cv base A Q H locs lsA hF hH hL hN hret
  obtain ⟨hx, hb, hr, hml, hown, hts, hlk, hin, hK, hA, hcv, hR⟩ := id hF
  obtain ⟨-, -, ⟨adK, adV, hvk, had, -⟩, -⟩ := hR
  have ev : fp_v cv (.ref (100 + i)) = .ref (adK i) := (had i hi).1
  rw [List.map_cons, ev]
  exact vk_getf hx hb (hvk.1 i hi).2.1 hH.2.2.1 hown (hts _ hl) (fun _ h9 => h9) hd (g p l e s m args below meth c D cs cv base A Q H locs lsA hF hH hL hN hret)
theorem r_svalue {idx i : Nat} (hd : decode μ.2.1 pc = .ok (.getfield idx, 3)) (hl : Cond.fieldLink μ.1.cls idx "java/lang/String" "value" "[B" ∈ fp_tbl) (hi : i < 12) (g : fp_W X μ (pc + 3) ls (.ref (120 + i) :: st) sh M nc ns Post) : fp_W X μ pc ls (.ref (100 + i) :: st) sh M nc ns Post := by
  intro p l e s m args below meth c D cs cv base A Q H locs lsA hF hH hL hN hret
  obtain ⟨hx, hb, hr, hml, hown, hts, hlk, hin, hK, hA, hcv, hR⟩ := id hF
  obtain ⟨-, -, ⟨adK, adV, hvk, had, -⟩, -⟩ := hR
  have ev : fp_v cv (.ref (100 + i)) = .ref (adK i) := (had i hi).1
  have ew : fp_v cv (.ref (120 + i)) = .ref (adV i) := (had i hi).2
  have hg := g p l e s m args below meth c D cs cv base A Q H locs lsA hF hH hL hN hret
  rw [List.map_cons, ew] at hg
  rw [List.map_cons, ev]
  exact vk_getf hx hb (hvk.1 i hi).2.2.1 hH.2.2.1 hown (hts _ hl) (fun _ h9 => h9) hd hg
theorem r_sblen {i : Nat} (v : Int32) (hd : decode μ.2.1 pc = .ok (.arraylength, 1)) (hi : i < 12) (hv : Int32.ofNat (fp_sl.getD i 0) = v) (g : fp_W X μ (pc + 1) ls (.int v :: st) sh M nc ns Post) : fp_W X μ pc ls (.ref (120 + i) :: st) sh M nc ns Post := by
  intro p l e s m args below meth c D cs cv base A Q H locs lsA hF hH hL hN hret
  obtain ⟨hx, hb, hr, hml, hown, hts, hlk, hin, hK, hA, hcv, hR⟩ := id hF
  obtain ⟨-, -, ⟨adK, adV, hvk, had, -⟩, -⟩ := hR
  have ew : fp_v cv (.ref (120 + i)) = .ref (adV i) := (had i hi).2
  rw [List.map_cons, ew]
  exact va_tlen hx hb (hvk.1 i hi).2.2.2 hH.2.2.1 hv hd (g p l e s m args below meth c D cs cv base A Q H locs lsA hF hH hL hN hret)
theorem r_sbald {i : Nat} {j : Int32} (hd : decode μ.2.1 pc = .ok (.baload, 1)) (hi : i < 12) (hj : vp_in j (fp_sl.getD i 0)) (g : fp_W X μ (pc + 1) ls (.int ((fp_sb.getD i []).getD j.toNatClampNeg 0) :: st) sh M nc ns Post) : fp_W X μ pc ls (.int j :: .ref (120 + i) :: st) sh M nc ns Post := by
  intro p l e s m args below meth c D cs cv base A Q H locs lsA hF hH hL hN hret
  obtain ⟨hx, hb, hr, hml, hown, hts, hlk, hin, hK, hA, hcv, hR⟩ := id hF
  obtain ⟨-, -, ⟨adK, adV, hvk, had, -⟩, -⟩ := hR
  have ew : fp_v cv (.ref (120 + i)) = .ref (adV i) := (had i hi).2
  rw [List.map_cons, List.map_cons, ew]
  exact va_tb hx hb (hvk.1 i hi).2.2.2 hH.2.2.1 hj rfl hd (g p l e s m args below meth c D cs cv base A Q H locs lsA hF hH hL hN hret)
theorem r_gcs {idx : Nat} (hd : decode μ.2.1 pc = .ok (.getstatic idx, 3)) (hl : Cond.fieldLink μ.1.cls idx RJ0 "COMPACT_STRINGS" "Z" ∈ fp_tbl) (g : fp_W X μ (pc + 3) ls (.int 1 :: st) sh M nc ns Post) : fp_W X μ pc ls st sh M nc ns Post := by
  intro p l e s m args below meth c D cs cv base A Q H locs lsA hF hH hL hN hret
  obtain ⟨hx, hb, hr, hml, hown, hts, hlk, hin, hK, hA, hcv, hR⟩ := id hF
  exact va_gets hx hb hR.1 hH.2.2.1 hown (hts _ hl) (fun _ h9 => h9) hd (g p l e s m args below meth c D cs cv base A Q H locs lsA hF hH hL hN hret)
theorem r_gsio {idx : Nat} (hd : decode μ.2.1 pc = .ok (.getstatic idx, 3)) (hl : Cond.fieldLink μ.1.cls idx RJ3 "SIOOBE_FORMATTER" "Ljava/util/function/BiFunction;" ∈ fp_tbl) (g : fp_W X μ (pc + 3) ls (.ref 140 :: st) sh M nc ns Post) : fp_W X μ pc ls st sh M nc ns Post := by
  intro p l e s m args below meth c D cs cv base A Q H locs lsA hF hH hL hN hret
  obtain ⟨hx, hb, hr, hml, hown, hts, hlk, hin, hK, hA, hcv, hR⟩ := id hF
  exact va_gets hx hb hR.2.1 hH.2.2.1 hown (hts _ hl) (fun _ h9 => h9) hd (g p l e s m args below meth c D cs cv base A Q H locs lsA hF hH hL hN hret)
/-- Object's constructor -/
theorem r_objI {idx k : Nat} (hd : decode μ.2.1 pc = .ok (.invokespecial idx, 3)) (hl : Cond.methodLink μ.1.cls idx Lib.objectInit ∈ fp_tbl) (hi : Cond.instanceMethod Lib.objectInit ∈ fp_tbl) (hc0 : Cond.code Lib.objectInit ⟨#[0xb1]⟩ 1 none ∈ fp_tbl) (hk : k < 100) (hst : (st.map fun v => v.category).sum ≤ 8) (hf : 1 ≤ μ.2.2.2.2.frames) (hlo : 20 ≤ μ.2.2.2.2.locals) (g : fp_W X μ (pc + 3) ls st sh M nc ns Post) : fp_W X μ pc ls (.ref k :: st) sh M nc ns Post := by
  intro p l e s m args below meth c D cs cv base A Q H locs lsA hF hH hL hN hret
  obtain ⟨hx, hb, hr, hml, hown, hts, hlk, hin, hK, hA, hcv, hR⟩ := id hF
  have ev : fp_v cv (.ref k) = .ref (base + k) := hcv.1 k hk
  rw [List.map_cons, ev]
  exact W.objInit hx hb hown (hts _ hl) (hts _ hi) (hts _ hc0) rfl (by rw [hml]; exact hL.1) rfl hd hf (by show 2 * 0 + _ + 12 ≤ _; rw [fp_cats cv hcv.2]; omega) (g p l e s m args below meth c D cs cv base A Q H locs lsA hF hH hL hN hret)
end FPM
end
section
/-! ===== rows of the calculus that make cells; arrays of places; stretches ===== -/
/-- the fields of a new object -/
def fp_df (ty : FieldType) : Option (Option Nat) := match ty with
  | .int => none
  | .boolean => none
  | _ => some none
theorem fp_df_ok (base : Nat) (k j : Nat) (M : fp_M) (hM : M k j = 0) {ty : FieldType} (h : ty = .int ∨ ty = .boolean ∨ (∃ n, ty = .object n) ∨ ∃ t, ty = .array t) : fp_fv base M k (fp_df ty, j) = defaultValue ty := by
  rcases h with rfl | rfl | ⟨n, rfl⟩ | ⟨t, rfl⟩
  · show Value.int (M k j) = _; rw [hM]; rfl
  · show Value.int (M k j) = _; rw [hM]; rfl
  · rfl
  · rfl
def fp_isd : FieldType → Bool
  | .int => true
  | .boolean => true
  | .object _ => true
  | .array _ => true
  | _ => false
theorem fp_isd_ok {ty : FieldType} (h : fp_isd ty = true) : ty = .int ∨ ty = .boolean ∨ (∃ n, ty = .object n) ∨ ∃ t, ty = .array t := by
  cases ty <;> first | (exact Or.inl rfl) | (exact Or.inr (Or.inl rfl)) | (exact Or.inr (Or.inr (Or.inl ⟨_, rfl⟩))) | (exact Or.inr (Or.inr (Or.inr ⟨_, rfl⟩))) | cases h
section FPN
variable {X : fp_X} {μ : fp_Y} {pc : Nat} {ls : List (Option Value)} {st : List Value} {sh : List fp_C} {M : fp_M} {nc ns : Nat} {Post : fp_Q}
theorem r_new {idx ci N : Nat} {C : String} {T : u_T} {ty : Nat → FieldType} (hd : decode μ.2.1 pc = .ok (.new idx, 3)) (hcl : fp_cl ci C T N ty) (h1 : Cond.classLink μ.1.cls idx C ∈ fp_tbl) (h2 : Cond.instantiable C N ∈ fp_tbl) (h3 : Cond.initialized C ∈ fp_tbl) (hty : ∀ j, j < N → fp_isd (ty j) = true) {fs : List (Option (Option Nat))} (hfs : (List.range N).map (fun j => fp_df (ty j)) = fs) (hc : nc + 1 ≤ μ.2.2.2.2.cells ∧ ns + N ≤ μ.2.2.2.2.slots) (hcap : sh.length < 100)
    (g : fp_W X μ (pc + 3) ls (.ref sh.length :: st) (sh ++ [.inl (ci, fs)]) (fp_z M sh.length) (nc + 1) (ns + N) Post) : fp_W X μ pc ls st sh M nc ns Post := by
  intro p l e s m args below meth c D cs cv base A Q H locs lsA hF hH hL hN hret
  obtain ⟨hx, hb, hr, hml, hown, hts, hlk, hin, hK, hA, hcv, hR⟩ := id hF
  obtain ⟨hP, hD, hS, hsz, -⟩ := hH
  obtain ⟨c1, c2, c3, c4⟩ := hcl
  have hKn := hK.1 ci _ c1
  refine W.newcK hx hb hown (hts _ h1) (hts _ h2) (hts _ h3) rfl hd hc.1 hc.2 hKn.2.1 rfl fun H1 kC hkC e1 z1 o1 => ?_
  have er : fp_v cv (.ref sh.length) = .ref H.size := by rw [hsz]; exact hcv.1 _ hcap
  have hg := g p l e s m args below meth c D cs cv base A Q H1 locs lsA hF ?_ hL hc hret
  · rw [List.map_cons, er] at hg
    exact hg
  have hk : ∀ (k : Nat) (x : Nat × va_E), (fp_w cs base sh M)[k]? = some x → H1[x.1]? = H[x.1]? := fun k x hx => o1 x.1 ((hP k x hx).lt)
  have hw := fp_w_push (cs := cs) (base := base) (sh := sh) (M := M) (M' := fp_z M sh.length) (c := .inl (ci, fs)) (fun q hq => fp_z_row hq)
  refine ⟨?_, ?_, ⟨Nat.le_trans hS.1 (by omega), fun x g1 g2 => (o1 x (Nat.lt_of_lt_of_le g1 hS.1)).trans (hS.2.1 x g1 g2), hS.2.2⟩, by rw [z1, hsz]; simp; omega, by simp; omega⟩
  · rw [← hw]
    refine (hP.kept hk).app (fun k x hx => ?_)
    have hz : k < 1 := (List.getElem?_eq_some_iff.mp hx).1
    rw [show k = 0 by omega] at hx
    cases hx
    refine ⟨_, c1, ?_⟩
    show t_OB (base + sh.length) (D.1 ci) N (D.2 ci) H1 (vp_V (fs.zipIdx.map (fp_fv base (fp_z M sh.length) sh.length)))
    rw [← hsz]
    refine (u_born ty hts c2 hKn hkC e1 c3).to (fun j hj => ?_)
    have h5 : fs[j]? = some (fp_df (ty j)) := by rw [← hfs, List.getElem?_map, List.getElem?_range hj]; rfl
    show defaultValue (ty j) = vp_V _ j
    unfold vp_V
    rw [List.getD_eq_getElem?_getD, fp_fs_at h5]
    show defaultValue (ty j) = fp_fv base (fp_z M sh.length) sh.length (fp_df (ty j), j)
    rw [fp_df_ok base sh.length j (fp_z M sh.length) (by simp [fp_z]) (fp_isd_ok (hty j hj))]
  · rw [← hw]
    exact hD.push hP hsz.symm (hA _ (by rw [← hsz]; exact hS.1))
theorem r_newi {n : Int32} {N : Nat} (hd : decode μ.2.1 pc = .ok (.newarray .int, 2)) (h1 : Cond.arrayClass .int ∈ fp_tbl) (hn : ¬ n < 0) (hN0 : n.toNatClampNeg = N) (hb0 : N ≤ 1000) (hc : nc + 1 ≤ μ.2.2.2.2.cells ∧ ns + N ≤ μ.2.2.2.2.slots) (hcap : sh.length < 100)
    (g : fp_W X μ (pc + 2) ls (.ref sh.length :: st) (sh ++ [.inr (.inl N)]) (fp_z M sh.length) (nc + 1) (ns + N) Post) : fp_W X μ pc ls (.int n :: st) sh M nc ns Post := by
  intro p l e s m args below meth c D cs cv base A Q H locs lsA hF hH hL hN hret
  obtain ⟨hx, hb, hr, hml, hown, hts, hlk, hin, hK, hA, hcv, hR⟩ := id hF
  obtain ⟨hP, hD, hS, hsz, -⟩ := hH
  refine va_newaK (atype := .int) hx hb (hts _ h1) rfl hd rfl hn hN0 (by show N * 4 ≤ 536870912; omega) hc.1 hc.2 rfl fun H1 cA e1 z1 o1 hAr hNm => ?_
  have hcA : cA = cs 0 := by
    have h5 : s.vm.findClass ("[" ++ (FieldType.int).toString) = some (cs 0) := (hK.2 0 _ rfl).2
    exact Option.some.inj (hNm.symm.trans h5)
  subst hcA
  have er : fp_v cv (.ref sh.length) = .ref H.size := by rw [hsz]; exact hcv.1 _ hcap
  have hg := g p l e s m args below meth c D cs cv base A Q H1 locs lsA hF ?_ hL hc hret
  · rw [List.map_cons, er] at hg
    exact hg
  have hk : ∀ (k : Nat) (x : Nat × va_E), (fp_w cs base sh M)[k]? = some x → H1[x.1]? = H[x.1]? := fun k x hx => o1 x.1 ((hP k x hx).lt)
  have hw := fp_w_push (cs := cs) (base := base) (sh := sh) (M := M) (M' := fp_z M sh.length) (c := .inr (.inl N)) (fun q hq => fp_z_row hq)
  refine ⟨?_, ?_, ⟨Nat.le_trans hS.1 (by omega), fun x g1 g2 => (o1 x (Nat.lt_of_lt_of_le g1 hS.1)).trans (hS.2.1 x g1 g2), hS.2.2⟩, by rw [z1, hsz]; simp; omega, by simp; omega⟩
  · rw [← hw]
    refine (hP.kept hk).app (fun k x hx => ?_)
    have hz : k < 1 := (List.getElem?_eq_some_iff.mp hx).1
    rw [show k = 0 by omega] at hx
    cases hx
    show H1[base + sh.length]? = some (vp_cell (cs 0) (N, .inl (fp_z M sh.length sh.length)))
    rw [← hsz, e1, vp_cell_i]
    congr 2
    funext j
    simp [fp_z]
    rfl
  · rw [← hw]
    exact hD.push hP hsz.symm (hA _ (by rw [← hsz]; exact hS.1))
theorem r_newr {idx t : Nat} {n : Int32} {N : Nat} {C : String} (hd : decode μ.2.1 pc = .ok (.anewarray idx, 3)) (h1 : Cond.classLink μ.1.cls idx C ∈ fp_tbl) (ht : (fp_tys (fun q => q))[t]? = some (t, .object C)) (hn : ¬ n < 0) (hN0 : n.toNatClampNeg = N) (hb0 : N ≤ 1000) (hc : nc + 1 ≤ μ.2.2.2.2.cells ∧ ns + N ≤ μ.2.2.2.2.slots) (hcap : sh.length < 100)
    (g : fp_W X μ (pc + 3) ls (.ref sh.length :: st) (sh ++ [.inr (.inr (t, List.replicate N none))]) M (nc + 1) (ns + N) Post) : fp_W X μ pc ls (.int n :: st) sh M nc ns Post := by
  intro p l e s m args below meth c D cs cv base A Q H locs lsA hF hH hL hN hret
  obtain ⟨hx, hb, hr, hml, hown, hts, hlk, hin, hK, hA, hcv, hR⟩ := id hF
  obtain ⟨hP, hD, hS, hsz, -⟩ := hH
  have hAO : va_AO C s := by
    match t, ht with
    | 0, ht => cases ht
    | 1, ht => cases ht; exact hR.2.2.2.2.2.1
    | 2, ht => cases ht; exact hR.2.2.2.2.2.2
    | n + 3, ht => cases ht
  have htt : (fp_tys cs)[t]? = some (cs t, .object C) := by
    match t, ht with
    | 0, ht => cases ht
    | 1, ht => cases ht; rfl
    | 2, ht => cases ht; rfl
    | n + 3, ht => cases ht
  subst hN0
  refine W.anew hx hb hown (hts _ h1) (va_AO.use hAO) rfl hd rfl hn (by omega) hc.1 hc.2 fun cA kA comp f1 f2 f3 f4 => ?_
  obtain ⟨kA', comp', -, -, -, k4⟩ := (hK.2 t _ htt).2
  have hcA : cA = cs t := Option.some.inj (f1.symm.trans k4)
  subst hcA
  generalize hH1 : H.push ({ cls := cs t, slots := Array.replicate n.toNatClampNeg .null, vm := .none } : Cell) = H1
  have z1 : H1.size = H.size + 1 := by rw [← hH1, Array.size_push]
  have e1 : H1[H.size]? = some (arrV (cs t) n.toNatClampNeg (fun _ => .null)) := by rw [← hH1, Array.getElem?_push_size, ← arrV_new]
  have o1 : ∀ q : Nat, q < H.size → H1[q]? = H[q]? := fun q hq => by rw [← hH1, Array.getElem?_push, if_neg (Nat.ne_of_lt hq)]
  have er : fp_v cv (.ref sh.length) = .ref H.size := by rw [hsz]; exact hcv.1 _ hcap
  have hg := g p l e s m args below meth c D cs cv base A Q H1 locs lsA hF ?_ hL hc hret
  · rw [List.map_cons, er] at hg
    exact hg
  have hk : ∀ (k : Nat) (x : Nat × va_E), (fp_w cs base sh M)[k]? = some x → H1[x.1]? = H[x.1]? := fun k x hx => o1 x.1 ((hP k x hx).lt)
  have hw := fp_w_push (cs := cs) (base := base) (sh := sh) (M := M) (M' := M) (c := .inr (.inr (t, List.replicate n.toNatClampNeg none))) (fun q hq => rfl)
  refine ⟨?_, ?_, ⟨Nat.le_trans hS.1 (by omega), fun x g1 g2 => (o1 x (Nat.lt_of_lt_of_le g1 hS.1)).trans (hS.2.1 x g1 g2), hS.2.2⟩, by rw [z1, hsz]; simp; omega, by simp; omega⟩
  · rw [← hw]
    refine (hP.kept hk).app (fun k x hx => ?_)
    have hz : k < 1 := (List.getElem?_eq_some_iff.mp hx).1
    rw [show k = 0 by omega] at hx
    cases hx
    show H1[base + sh.length]? = some (vp_cell (cs t) ((List.replicate n.toNatClampNeg none).length, .inr (.inr (.inr (.inr (fun j => ((List.replicate n.toNatClampNeg (none : Option Nat)).getD j none).map (fun r => base + r)))))))
    rw [← hsz, e1, vp_cell_q, List.length_replicate]
    congr 2
    funext j
    have : (List.replicate n.toNatClampNeg (none : Option Nat)).getD j none = none := by
      rw [List.getD_eq_getElem?_getD, List.getElem?_replicate]
      by_cases hj : j < n.toNatClampNeg
      · rw [if_pos hj]; rfl
      · rw [if_neg hj]; rfl
    rw [this]
    rfl
  · rw [← hw]
    exact hD.push hP hsz.symm (hA _ (by rw [← hsz]; exact hS.1))
theorem r_aast {k t r ci : Nat} {rs : List (Option Nat)} {fs : List (Option (Option Nat))} {i : Int32} {C : String} (hd : decode μ.2.1 pc = .ok (.aastore, 1)) (hs : sh[k]? = some (.inr (.inr (t, rs)))) (hi : vp_in i rs.length) (hr0 : sh[r]? = some (.inl (ci, fs))) (hcl : (vwCl[ci]?).map (fun q => q.1) = some C) (ht : (fp_tys (fun q => q))[t]? = some (t, .object C)) (g : fp_W X μ (pc + 1) ls st (sh.set k (.inr (.inr (t, rs.set i.toNatClampNeg (some r))))) M nc ns Post) : fp_W X μ pc ls (.ref r :: .int i :: .ref k :: st) sh M nc ns Post := by
  intro p l e s m args below meth c D cs cv base A Q H locs lsA hF hH hL hN hret
  obtain ⟨hx, hb, hr, hml, hown, hts, hlk, hin, hK, hA, hcv, hR⟩ := id hF
  obtain ⟨hP, hD, hS, hsz, hcap⟩ := hH
  have hlt := (List.getElem?_eq_some_iff.mp hs).1
  have ev : fp_v cv (.ref k) = .ref (base + k) := hcv.1 k (Nat.lt_of_lt_of_le hlt hcap)
  have er : fp_v cv (.ref r) = .ref (base + r) := hcv.1 r (Nat.lt_of_lt_of_le (List.getElem?_eq_some_iff.mp hr0).1 hcap)
  rw [List.map_cons, List.map_cons, List.map_cons, ev, er]
  have htt : (fp_tys cs)[t]? = some (cs t, .object C) := by
    match t, ht with
    | 0, ht => cases ht
    | 1, ht => cases ht; rfl
    | 2, ht => cases ht; rfl
    | n + 3, ht => cases ht
  obtain ⟨q, hq⟩ : ∃ q, vwCl[ci]? = some q := by
    cases h : vwCl[ci]? with
    | none => rw [h] at hcl; cases hcl
    | some q => exact ⟨q, rfl⟩
  have hqc : q.1 = C := by rw [hq] at hcl; exact Option.some.inj hcl
  subst hqc
  have ha : (fp_w cs base sh M)[k]? = some (base + k, .inl (cs t, rs.length, .inr (.inr (.inr (.inr (fun j => (rs.getD j none).map (fun r => base + r))))))) := fp_w_some hs
  have hv := fp_w_some (cs := cs) (base := base) (M := M) hr0
  have hlti : i.toNatClampNeg < rs.length := Nat.not_le.mp fun q => hi (Or.inr q)
  have h0 : ¬ i < 0 := fun q => hi (Or.inl q)
  obtain ⟨r', hr', cellV, g1, g2, g3, -⟩ := hP r _ hv
  have hcls := (hK.1 ci q hq).2
  obtain ⟨kA, comp, k1, k2, k3, -⟩ := (hK.2 t _ htt).2
  have hcomp : comp = D.1 ci := Option.some.inj (k3.symm.trans hcls.1)
  subst hcomp
  obtain ⟨kC, hkC, -⟩ := hcls.2
  refine W.aast hx hb (hP k _ ha) (fun q h => by cases h) (fun h => by cases h) k1 k2 rfl hkC ⟨h0, by show _ < (arrV _ _ _).slots.size; rw [arrV_size]; exact hlti⟩ g1 (fun q h => by rw [g3] at h; cases h) (by rw [g2]; exact hkC) (by rw [g2]; exact va_assign hcls) rfl rfl hd fun H1 e1 z oq => ?_
  have hw : (fp_w cs base sh M).set k (base + k, fp_e cs base M k (.inr (.inr (t, rs.set i.toNatClampNeg (some r))))) = fp_w cs base (sh.set k (.inr (.inr (t, rs.set i.toNatClampNeg (some r))))) M := fp_w_set (cs := cs) (base := base) (sh := sh) (M := M) (M' := M) (k := k) hlt (fun q hq => rfl)
  have hnew : va_at D vwCl (base + k, fp_e cs base M k (.inr (.inr (t, rs.set i.toNatClampNeg (some r))))) H1 := by
    show H1[base + k]? = some (vp_cell (cs t) ((rs.set i.toNatClampNeg (some r)).length, .inr (.inr (.inr (.inr (fun j => ((rs.set i.toNatClampNeg (some r)).getD j none).map (fun r => base + r)))))))
    rw [e1, vp_cell_q, vp_cell_q, arrV_store, List.length_set]
    congr 2
    funext j
    by_cases hj : j = i.toNatClampNeg
    · subst hj
      simp [updV, va_rf, List.getD_eq_getElem?_getD, List.getElem?_set, hlti]
    · simp [updV, hj, List.getD_eq_getElem?_getD, List.getElem?_set, Ne.symm hj]
  refine g p l e s m args below meth c D cs cv base A Q H1 _ lsA hF ⟨?_, ?_, hS.put z oq (hD.2 k _ ha), by rw [z, List.length_set]; exact hsz, by rw [List.length_set]; exact hcap⟩ hL hN hret
  · rw [← hw]
    exact hP.set hD ha hnew oq
  · rw [← hw]
    exact hD.set ha
/-- System.arraycopy between rows of numbers, where nothing was made -/
theorem r_acopy {idx k0 k1 n0 n1 : Nat} {sp dp n : Int32} (hd : decode μ.2.1 pc = .ok (.invokestatic idx, 3)) (w1 : Cond.methodLink μ.1.cls idx arraycopyName ∈ fp_tbl) (w2 : Cond.native arraycopyName ∈ fp_tbl) (w3 : Cond.static arraycopyName ∈ fp_tbl) (w4 : Cond.initialized "java/lang/System" ∈ fp_tbl) (hs0 : sh[k0]? = some (.inr (.inl n0))) (hs1 : sh[k1]? = some (.inr (.inl n1))) (h1 : ¬ sp < 0) (h2 : ¬ dp < 0) (h3 : ¬ n < 0) (h4 : sp.toNatClampNeg + n.toNatClampNeg ≤ n0) (h5 : dp.toNatClampNeg + n.toNatClampNeg ≤ n1) (hfr : 1 ≤ μ.2.2.2.2.frames) (hlo : (st.map fun v => v.category).sum + (nativeFrameWords "java/lang/System" "arraycopy" 5 + 11) ≤ μ.2.2.2.2.locals)
    (g : fp_W X μ (pc + 3) ls st sh (fp_cp M k0 sp.toNatClampNeg k1 dp.toNatClampNeg n.toNatClampNeg) 0 ns Post) : fp_W X μ pc ls (.int n :: .int dp :: .ref k1 :: .int sp :: .ref k0 :: st) sh M 0 ns Post := by
  intro p l e s m args below meth c D cs cv base A Q H locs lsA hF hH hL hN hret
  obtain ⟨hx, hb, hr, hml, hown, hts, hlk, hin, hK, hA, hcv, hR⟩ := id hF
  obtain ⟨hP, hD, hS, hsz, hcap⟩ := hH
  have hlt1 := (List.getElem?_eq_some_iff.mp hs1).1
  have e0 : fp_v cv (.ref k0) = .ref (base + k0) := hcv.1 k0 (Nat.lt_of_lt_of_le (List.getElem?_eq_some_iff.mp hs0).1 hcap)
  have e1 : fp_v cv (.ref k1) = .ref (base + k1) := hcv.1 k1 (Nat.lt_of_lt_of_le hlt1 hcap)
  intro T hT0 X0
  have hsame : H.size ≤ s.heap.size := by
    have h6 := X0.same.2.2.1
    have h7 : (T.setVm s.vm).heap.size = H.size := by show T.heap.size = _; rw [hT0]
    rw [h7] at h6
    omega
  have hmain : W p l e μ.2.2.2.2 s m args below meth c H locs 0 ns Q (F0 m pc lsA ((.int n :: .int dp :: .ref k1 :: .int sp :: .ref k0 :: st : List Value).map (fp_v cv))) := by
    rw [List.map_cons, List.map_cons, List.map_cons, List.map_cons, List.map_cons, e0, e1]
    refine va_copyi (f := M k0) (g := M k1) (ty := .int) hx hb (hml.trans hL.1.symm) hown (hts _ w1) (hts _ w2) (hts _ w3) (hts _ w4) hK hP hD hS k0 k1 0 0 (fp_w_some hs0) (fp_w_some hs1) rfl rfl rfl h1 h2 h3 h4 h5 (fun _ _ => rfl) hfr (by rw [fp_cats cv hcv.2]; exact hlo) hd (fun H1 locs1 hP1 hD1 hS1 => ?_)
    have hw : (fp_w cs base sh M).set k1 (base + k1, .inl (cs 0, n1, .inl (va_cpy (M k0) (M k1) sp.toNatClampNeg dp.toNatClampNeg n.toNatClampNeg))) = fp_w cs base sh (fp_cp M k0 sp.toNatClampNeg k1 dp.toNatClampNeg n.toNatClampNeg) := by
      have hrow : va_cpy (M k0) (M k1) sp.toNatClampNeg dp.toNatClampNeg n.toNatClampNeg = fp_cp M k0 sp.toNatClampNeg k1 dp.toNatClampNeg n.toNatClampNeg k1 := by
        funext j
        simp [fp_cp]
      rw [hrow]
      have := fp_w_set (cs := cs) (base := base) (sh := sh) (M := M) (M' := fp_cp M k0 sp.toNatClampNeg k1 dp.toNatClampNeg n.toNatClampNeg) (k := k1) (c := .inr (.inl n1)) hlt1 (fun q hq => fp_cp_row hq)
      rw [fp_set_self hs1] at this
      exact this
    rw [hw] at hP1 hD1
    intro T1 hT1 X1
    have hs2 : H1.size ≤ s.heap.size := by
      have h6 := X1.same.2.2.1
      have h7 : (T1.setVm s.vm).heap.size = H1.size := by show T1.heap.size = _; rw [hT1]
      rw [h7] at h6
      omega
    have hs3 := hS.1
    have hs4 := hS1.1
    exact g p l e s m args below meth c D cs cv base A Q H1 locs1 lsA hF ⟨hP1, hD1, hS1, by omega, hcap⟩ hL hN hret T1 hT1 X1
  exact hmain T hT0 X0
end FPN
theorem zz_bad : (1 : Nat) = 2 := by rfl
theorem zz_bad2 {X : fp_X} {μ : fp_Y} {pc : Nat} {ls : List (Option Value)} {st : List Value} {sh : List fp_C} {M : fp_M} {nc ns : Nat} {Post : fp_Q} : fp_W X μ pc ls st sh M nc ns Post := by
  exact r_new sorry sorry sorry sorry sorry sorry sorry sorry sorry sorry
end
