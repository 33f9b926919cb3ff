section
/-- a private method of a class that the tables say can be made, by its rows of tables_1 -/
def lw_okq (q : MethodName × Nat) : Prop := (q.1.cls ≠ "java/lang/invoke/MethodHandle" ∧ q.1.cls ≠ "java/lang/invoke/VarHandle") ∧ Cond.instantiable q.1.cls q.2 ∈ tables_1 ∧ Cond.privateMethod q.1 ∈ tables_1 ∧ Cond.instanceMethod q.1 ∈ tables_1
theorem lw_p0 : lw_okq (⟨"MoodTown$Tape", "weighFigures", "()V"⟩, 6) := ⟨⟨by decide +kernel, by decide +kernel⟩, List.mem_of_getElem? (i := 26) (by decide +kernel), List.mem_of_getElem? (i := 322) (by decide +kernel), List.mem_of_getElem? (i := 323) (by decide +kernel)⟩
theorem lw_p1 : lw_okq (⟨"MoodTown$Telling", "takeLine", "()V"⟩, 8) := ⟨⟨by decide +kernel, by decide +kernel⟩, List.mem_of_getElem? (i := 57) (by decide +kernel), List.mem_of_getElem? (i := 326) (by decide +kernel), List.mem_of_getElem? (i := 327) (by decide +kernel)⟩
theorem lw_p2 : lw_okq (⟨"MoodTown$Telling", "refuse", "(II)V"⟩, 8) := ⟨⟨by decide +kernel, by decide +kernel⟩, List.mem_of_getElem? (i := 57) (by decide +kernel), List.mem_of_getElem? (i := 330) (by decide +kernel), List.mem_of_getElem? (i := 331) (by decide +kernel)⟩
theorem lw_p3 : lw_okq (⟨"MoodTown$Telling", "takeTown", "()V"⟩, 8) := ⟨⟨by decide +kernel, by decide +kernel⟩, List.mem_of_getElem? (i := 57) (by decide +kernel), List.mem_of_getElem? (i := 387) (by decide +kernel), List.mem_of_getElem? (i := 388) (by decide +kernel)⟩
theorem lw_p4 : lw_okq (⟨"MoodTown$Telling", "refuseSecond", "(Z)V"⟩, 8) := ⟨⟨by decide +kernel, by decide +kernel⟩, List.mem_of_getElem? (i := 57) (by decide +kernel), List.mem_of_getElem? (i := 391) (by decide +kernel), List.mem_of_getElem? (i := 392) (by decide +kernel)⟩
theorem lw_p5 : lw_okq (⟨"MoodTown$Telling", "takeNumber", "(II)I"⟩, 8) := ⟨⟨by decide +kernel, by decide +kernel⟩, List.mem_of_getElem? (i := 57) (by decide +kernel), List.mem_of_getElem? (i := 395) (by decide +kernel), List.mem_of_getElem? (i := 396) (by decide +kernel)⟩
theorem lw_p6 : lw_okq (⟨"MoodTown$Telling", "takeToken", "(I)Z"⟩, 8) := ⟨⟨by decide +kernel, by decide +kernel⟩, List.mem_of_getElem? (i := 57) (by decide +kernel), List.mem_of_getElem? (i := 399) (by decide +kernel), List.mem_of_getElem? (i := 400) (by decide +kernel)⟩
theorem lw_p7 : lw_okq (⟨"MoodTown$Telling", "takeWall", "()V"⟩, 8) := ⟨⟨by decide +kernel, by decide +kernel⟩, List.mem_of_getElem? (i := 57) (by decide +kernel), List.mem_of_getElem? (i := 404) (by decide +kernel), List.mem_of_getElem? (i := 405) (by decide +kernel)⟩
theorem lw_p8 : lw_okq (⟨"MoodTown$Telling", "refuseTaken", "(I)V"⟩, 8) := ⟨⟨by decide +kernel, by decide +kernel⟩, List.mem_of_getElem? (i := 57) (by decide +kernel), List.mem_of_getElem? (i := 408) (by decide +kernel), List.mem_of_getElem? (i := 409) (by decide +kernel)⟩
theorem lw_p9 : lw_okq (⟨"MoodTown$Telling", "takeOne", "(I)V"⟩, 8) := ⟨⟨by decide +kernel, by decide +kernel⟩, List.mem_of_getElem? (i := 57) (by decide +kernel), List.mem_of_getElem? (i := 425) (by decide +kernel), List.mem_of_getElem? (i := 426) (by decide +kernel)⟩
theorem lw_p10 : lw_okq (⟨"MoodTown$Telling", "takePull", "()V"⟩, 8) := ⟨⟨by decide +kernel, by decide +kernel⟩, List.mem_of_getElem? (i := 57) (by decide +kernel), List.mem_of_getElem? (i := 435) (by decide +kernel), List.mem_of_getElem? (i := 436) (by decide +kernel)⟩
theorem lw_p11 : lw_okq (⟨"MoodTown$Telling", "takePress", "()V"⟩, 8) := ⟨⟨by decide +kernel, by decide +kernel⟩, List.mem_of_getElem? (i := 57) (by decide +kernel), List.mem_of_getElem? (i := 440) (by decide +kernel), List.mem_of_getElem? (i := 441) (by decide +kernel)⟩
theorem lw_p12 : lw_okq (⟨"MoodTown$Telling", "takeGoal", "()V"⟩, 8) := ⟨⟨by decide +kernel, by decide +kernel⟩, List.mem_of_getElem? (i := 57) (by decide +kernel), List.mem_of_getElem? (i := 445) (by decide +kernel), List.mem_of_getElem? (i := 446) (by decide +kernel)⟩
theorem lw_p13 : lw_okq (⟨"MoodTown$Telling", "takeStop", "()V"⟩, 8) := ⟨⟨by decide +kernel, by decide +kernel⟩, List.mem_of_getElem? (i := 57) (by decide +kernel), List.mem_of_getElem? (i := 449) (by decide +kernel), List.mem_of_getElem? (i := 450) (by decide +kernel)⟩
theorem lw_p14 : lw_okq (⟨"MoodTown$Telling", "namesWhatIsNot", "()Z"⟩, 8) := ⟨⟨by decide +kernel, by decide +kernel⟩, List.mem_of_getElem? (i := 57) (by decide +kernel), List.mem_of_getElem? (i := 453) (by decide +kernel), List.mem_of_getElem? (i := 454) (by decide +kernel)⟩
theorem lw_p15 : lw_okq (⟨"MoodTown$Walk", "weighPair", "(LMoodTown$Town;II)V"⟩, 7) := ⟨⟨by decide +kernel, by decide +kernel⟩, List.mem_of_getElem? (i := 190) (by decide +kernel), List.mem_of_getElem? (i := 556) (by decide +kernel), List.mem_of_getElem? (i := 557) (by decide +kernel)⟩
def lw_privs_1 : List (MethodName × Nat) := [(⟨"MoodTown$Tape", "weighFigures", "()V"⟩, 6), (⟨"MoodTown$Telling", "takeLine", "()V"⟩, 8), (⟨"MoodTown$Telling", "refuse", "(II)V"⟩, 8), (⟨"MoodTown$Telling", "takeTown", "()V"⟩, 8), (⟨"MoodTown$Telling", "refuseSecond", "(Z)V"⟩, 8), (⟨"MoodTown$Telling", "takeNumber", "(II)I"⟩, 8), (⟨"MoodTown$Telling", "takeToken", "(I)Z"⟩, 8), (⟨"MoodTown$Telling", "takeWall", "()V"⟩, 8), (⟨"MoodTown$Telling", "refuseTaken", "(I)V"⟩, 8), (⟨"MoodTown$Telling", "takeOne", "(I)V"⟩, 8), (⟨"MoodTown$Telling", "takePull", "()V"⟩, 8), (⟨"MoodTown$Telling", "takePress", "()V"⟩, 8), (⟨"MoodTown$Telling", "takeGoal", "()V"⟩, 8), (⟨"MoodTown$Telling", "takeStop", "()V"⟩, 8), (⟨"MoodTown$Telling", "namesWhatIsNot", "()Z"⟩, 8), (⟨"MoodTown$Walk", "weighPair", "(LMoodTown$Town;II)V"⟩, 7)]
theorem lw_r1 : ∀ q ∈ lw_privs_1, lw_okq q := List.forall_mem_cons.mpr ⟨lw_p0, List.forall_mem_cons.mpr ⟨lw_p1, List.forall_mem_cons.mpr ⟨lw_p2, List.forall_mem_cons.mpr ⟨lw_p3, List.forall_mem_cons.mpr ⟨lw_p4, List.forall_mem_cons.mpr ⟨lw_p5, List.forall_mem_cons.mpr ⟨lw_p6, List.forall_mem_cons.mpr ⟨lw_p7, List.forall_mem_cons.mpr ⟨lw_p8, List.forall_mem_cons.mpr ⟨lw_p9, List.forall_mem_cons.mpr ⟨lw_p10, List.forall_mem_cons.mpr ⟨lw_p11, List.forall_mem_cons.mpr ⟨lw_p12, List.forall_mem_cons.mpr ⟨lw_p13, List.forall_mem_cons.mpr ⟨lw_p14, List.forall_mem_cons.mpr ⟨lw_p15, fun _ h => absurd h List.not_mem_nil⟩⟩⟩⟩⟩⟩⟩⟩⟩⟩⟩⟩⟩⟩⟩⟩
theorem lw_p16 : lw_okq (⟨"MoodTown$Walk", "moveAll", "(LMoodTown$Town;)V"⟩, 7) := ⟨⟨by decide +kernel, by decide +kernel⟩, List.mem_of_getElem? (i := 190) (by decide +kernel), List.mem_of_getElem? (i := 587) (by decide +kernel), List.mem_of_getElem? (i := 588) (by decide +kernel)⟩
theorem lw_p17 : lw_okq (⟨"MoodTown$Walk", "flipAll", "(LMoodTown$Town;)V"⟩, 7) := ⟨⟨by decide +kernel, by decide +kernel⟩, List.mem_of_getElem? (i := 190) (by decide +kernel), List.mem_of_getElem? (i := 591) (by decide +kernel), List.mem_of_getElem? (i := 592) (by decide +kernel)⟩
theorem lw_p18 : lw_okq (⟨"MoodTown$Walk", "nextTo", "(II)I"⟩, 7) := ⟨⟨by decide +kernel, by decide +kernel⟩, List.mem_of_getElem? (i := 190) (by decide +kernel), List.mem_of_getElem? (i := 595) (by decide +kernel), List.mem_of_getElem? (i := 596) (by decide +kernel)⟩
theorem lw_p19 : lw_okq (⟨"MoodTown$Search", "isTrialAtRest", "()Z"⟩, 3) := ⟨⟨by decide +kernel, by decide +kernel⟩, List.mem_of_getElem? (i := 223) (by decide +kernel), List.mem_of_getElem? (i := 645) (by decide +kernel), List.mem_of_getElem? (i := 646) (by decide +kernel)⟩
theorem lw_p20 : lw_okq (⟨"MoodTown", "isTotalOrOne", "(I)Z"⟩, 9) := ⟨⟨by decide +kernel, by decide +kernel⟩, List.mem_of_getElem? (i := 18) (by decide +kernel), List.mem_of_getElem? (i := 676) (by decide +kernel), List.mem_of_getElem? (i := 677) (by decide +kernel)⟩
theorem lw_p21 : lw_okq (⟨"MoodTown$Search", "reachesGoals", "(LMoodTown$Town;II)Z"⟩, 3) := ⟨⟨by decide +kernel, by decide +kernel⟩, List.mem_of_getElem? (i := 223) (by decide +kernel), List.mem_of_getElem? (i := 698) (by decide +kernel), List.mem_of_getElem? (i := 699) (by decide +kernel)⟩
theorem lw_p22 : lw_okq (⟨"MoodTown$Search", "nurseTrial", "(LMoodTown$Town;III)V"⟩, 3) := ⟨⟨by decide +kernel, by decide +kernel⟩, List.mem_of_getElem? (i := 223) (by decide +kernel), List.mem_of_getElem? (i := 748) (by decide +kernel), List.mem_of_getElem? (i := 749) (by decide +kernel)⟩
theorem lw_p23 : lw_okq (⟨"MoodTown$Search", "flipTrial", "(LMoodTown$Town;I)V"⟩, 3) := ⟨⟨by decide +kernel, by decide +kernel⟩, List.mem_of_getElem? (i := 223) (by decide +kernel), List.mem_of_getElem? (i := 785) (by decide +kernel), List.mem_of_getElem? (i := 786) (by decide +kernel)⟩
theorem lw_p24 : lw_okq (⟨"MoodTown$Search", "fits", "(LMoodTown$Town;I)Z"⟩, 3) := ⟨⟨by decide +kernel, by decide +kernel⟩, List.mem_of_getElem? (i := 223) (by decide +kernel), List.mem_of_getElem? (i := 814) (by decide +kernel), List.mem_of_getElem? (i := 815) (by decide +kernel)⟩
theorem lw_p25 : lw_okq (⟨"MoodTown", "isTellableMood", "(LMoodTown$Sheet;I)Z"⟩, 9) := ⟨⟨by decide +kernel, by decide +kernel⟩, List.mem_of_getElem? (i := 18) (by decide +kernel), List.mem_of_getElem? (i := 895) (by decide +kernel), List.mem_of_getElem? (i := 896) (by decide +kernel)⟩
theorem lw_p26 : lw_okq (⟨"MoodTownModel", "firstDraft", "()V"⟩, 35) := ⟨⟨by decide +kernel, by decide +kernel⟩, List.mem_of_getElem? (i := 914) (by decide +kernel), List.mem_of_getElem? (i := 920) (by decide +kernel), List.mem_of_getElem? (i := 921) (by decide +kernel)⟩
theorem lw_p27 : lw_okq (⟨"MoodTownModel", "keepDraft", "()V"⟩, 35) := ⟨⟨by decide +kernel, by decide +kernel⟩, List.mem_of_getElem? (i := 914) (by decide +kernel), List.mem_of_getElem? (i := 924) (by decide +kernel), List.mem_of_getElem? (i := 925) (by decide +kernel)⟩
theorem lw_p28 : lw_okq (⟨"MoodTownModel", "next", "()V"⟩, 35) := ⟨⟨by decide +kernel, by decide +kernel⟩, List.mem_of_getElem? (i := 914) (by decide +kernel), List.mem_of_getElem? (i := 1051) (by decide +kernel), List.mem_of_getElem? (i := 1052) (by decide +kernel)⟩
theorem lw_p29 : lw_okq (⟨"MoodTownModel", "look", "(I)I"⟩, 35) := ⟨⟨by decide +kernel, by decide +kernel⟩, List.mem_of_getElem? (i := 914) (by decide +kernel), List.mem_of_getElem? (i := 1055) (by decide +kernel), List.mem_of_getElem? (i := 1056) (by decide +kernel)⟩
theorem lw_p30 : lw_okq (⟨"MoodTownModel", "needs", "(ZI)V"⟩, 35) := ⟨⟨by decide +kernel, by decide +kernel⟩, List.mem_of_getElem? (i := 914) (by decide +kernel), List.mem_of_getElem? (i := 1063) (by decide +kernel), List.mem_of_getElem? (i := 1064) (by decide +kernel)⟩
theorem lw_p31 : lw_okq (⟨"MoodTownModel", "readLine", "()V"⟩, 35) := ⟨⟨by decide +kernel, by decide +kernel⟩, List.mem_of_getElem? (i := 914) (by decide +kernel), List.mem_of_getElem? (i := 1067) (by decide +kernel), List.mem_of_getElem? (i := 1068) (by decide +kernel)⟩
def lw_privs_2 : List (MethodName × Nat) := [(⟨"MoodTown$Walk", "moveAll", "(LMoodTown$Town;)V"⟩, 7), (⟨"MoodTown$Walk", "flipAll", "(LMoodTown$Town;)V"⟩, 7), (⟨"MoodTown$Walk", "nextTo", "(II)I"⟩, 7), (⟨"MoodTown$Search", "isTrialAtRest", "()Z"⟩, 3), (⟨"MoodTown", "isTotalOrOne", "(I)Z"⟩, 9), (⟨"MoodTown$Search", "reachesGoals", "(LMoodTown$Town;II)Z"⟩, 3), (⟨"MoodTown$Search", "nurseTrial", "(LMoodTown$Town;III)V"⟩, 3), (⟨"MoodTown$Search", "flipTrial", "(LMoodTown$Town;I)V"⟩, 3), (⟨"MoodTown$Search", "fits", "(LMoodTown$Town;I)Z"⟩, 3), (⟨"MoodTown", "isTellableMood", "(LMoodTown$Sheet;I)Z"⟩, 9), (⟨"MoodTownModel", "firstDraft", "()V"⟩, 35), (⟨"MoodTownModel", "keepDraft", "()V"⟩, 35), (⟨"MoodTownModel", "next", "()V"⟩, 35), (⟨"MoodTownModel", "look", "(I)I"⟩, 35), (⟨"MoodTownModel", "needs", "(ZI)V"⟩, 35), (⟨"MoodTownModel", "readLine", "()V"⟩, 35)]
theorem lw_r2 : ∀ q ∈ lw_privs_2, lw_okq q := List.forall_mem_cons.mpr ⟨lw_p16, List.forall_mem_cons.mpr ⟨lw_p17, List.forall_mem_cons.mpr ⟨lw_p18, List.forall_mem_cons.mpr ⟨lw_p19, List.forall_mem_cons.mpr ⟨lw_p20, List.forall_mem_cons.mpr ⟨lw_p21, List.forall_mem_cons.mpr ⟨lw_p22, List.forall_mem_cons.mpr ⟨lw_p23, List.forall_mem_cons.mpr ⟨lw_p24, List.forall_mem_cons.mpr ⟨lw_p25, List.forall_mem_cons.mpr ⟨lw_p26, List.forall_mem_cons.mpr ⟨lw_p27, List.forall_mem_cons.mpr ⟨lw_p28, List.forall_mem_cons.mpr ⟨lw_p29, List.forall_mem_cons.mpr ⟨lw_p30, List.forall_mem_cons.mpr ⟨lw_p31, fun _ h => absurd h List.not_mem_nil⟩⟩⟩⟩⟩⟩⟩⟩⟩⟩⟩⟩⟩⟩⟩⟩
theorem lw_p32 : lw_okq (⟨"MoodTownModel", "lineNow", "()I"⟩, 35) := ⟨⟨by decide +kernel, by decide +kernel⟩, List.mem_of_getElem? (i := 914) (by decide +kernel), List.mem_of_getElem? (i := 1071) (by decide +kernel), List.mem_of_getElem? (i := 1072) (by decide +kernel)⟩
theorem lw_p33 : lw_okq (⟨"MoodTownModel", "is", "(III)Z"⟩, 35) := ⟨⟨by decide +kernel, by decide +kernel⟩, List.mem_of_getElem? (i := 914) (by decide +kernel), List.mem_of_getElem? (i := 1075) (by decide +kernel), List.mem_of_getElem? (i := 1076) (by decide +kernel)⟩
theorem lw_p34 : lw_okq (⟨"MoodTownModel", "ends", "(III)Z"⟩, 35) := ⟨⟨by decide +kernel, by decide +kernel⟩, List.mem_of_getElem? (i := 914) (by decide +kernel), List.mem_of_getElem? (i := 1079) (by decide +kernel), List.mem_of_getElem? (i := 1080) (by decide +kernel)⟩
theorem lw_p35 : lw_okq (⟨"MoodTownModel", "readLineOf", "(I)V"⟩, 35) := ⟨⟨by decide +kernel, by decide +kernel⟩, List.mem_of_getElem? (i := 914) (by decide +kernel), List.mem_of_getElem? (i := 1083) (by decide +kernel), List.mem_of_getElem? (i := 1084) (by decide +kernel)⟩
theorem lw_p36 : lw_okq (⟨"MoodTownModel", "readNumber", "(II)I"⟩, 35) := ⟨⟨by decide +kernel, by decide +kernel⟩, List.mem_of_getElem? (i := 914) (by decide +kernel), List.mem_of_getElem? (i := 1087) (by decide +kernel), List.mem_of_getElem? (i := 1088) (by decide +kernel)⟩
theorem lw_p37 : lw_okq (⟨"MoodTownModel", "looked", "(II)I"⟩, 35) := ⟨⟨by decide +kernel, by decide +kernel⟩, List.mem_of_getElem? (i := 914) (by decide +kernel), List.mem_of_getElem? (i := 1091) (by decide +kernel), List.mem_of_getElem? (i := 1092) (by decide +kernel)⟩
theorem lw_p38 : lw_okq (⟨"MoodTownModel", "readFree", "()I"⟩, 35) := ⟨⟨by decide +kernel, by decide +kernel⟩, List.mem_of_getElem? (i := 914) (by decide +kernel), List.mem_of_getElem? (i := 1095) (by decide +kernel), List.mem_of_getElem? (i := 1096) (by decide +kernel)⟩
theorem lw_p39 : lw_okq (⟨"MoodTownModel", "readGoal", "()V"⟩, 35) := ⟨⟨by decide +kernel, by decide +kernel⟩, List.mem_of_getElem? (i := 914) (by decide +kernel), List.mem_of_getElem? (i := 1099) (by decide +kernel), List.mem_of_getElem? (i := 1100) (by decide +kernel)⟩
theorem lw_p40 : lw_okq (⟨"MoodTownModel", "readOne", "(I)V"⟩, 35) := ⟨⟨by decide +kernel, by decide +kernel⟩, List.mem_of_getElem? (i := 914) (by decide +kernel), List.mem_of_getElem? (i := 1106) (by decide +kernel), List.mem_of_getElem? (i := 1107) (by decide +kernel)⟩
theorem lw_p41 : lw_okq (⟨"MoodTownModel", "isOne", "(I)Z"⟩, 35) := ⟨⟨by decide +kernel, by decide +kernel⟩, List.mem_of_getElem? (i := 914) (by decide +kernel), List.mem_of_getElem? (i := 1123) (by decide +kernel), List.mem_of_getElem? (i := 1124) (by decide +kernel)⟩
theorem lw_p42 : lw_okq (⟨"MoodTownModel", "isCell", "(I)Z"⟩, 35) := ⟨⟨by decide +kernel, by decide +kernel⟩, List.mem_of_getElem? (i := 914) (by decide +kernel), List.mem_of_getElem? (i := 1132) (by decide +kernel), List.mem_of_getElem? (i := 1133) (by decide +kernel)⟩
theorem lw_p43 : lw_okq (⟨"MoodTownModel", "starts", "()V"⟩, 35) := ⟨⟨by decide +kernel, by decide +kernel⟩, List.mem_of_getElem? (i := 914) (by decide +kernel), List.mem_of_getElem? (i := 1136) (by decide +kernel), List.mem_of_getElem? (i := 1137) (by decide +kernel)⟩
theorem lw_p44 : lw_okq (⟨"MoodTownModel", "whoIsIn", "(I)I"⟩, 35) := ⟨⟨by decide +kernel, by decide +kernel⟩, List.mem_of_getElem? (i := 914) (by decide +kernel), List.mem_of_getElem? (i := 1140) (by decide +kernel), List.mem_of_getElem? (i := 1141) (by decide +kernel)⟩
theorem lw_p45 : lw_okq (⟨"MoodTownModel", "becomes", "(II)I"⟩, 35) := ⟨⟨by decide +kernel, by decide +kernel⟩, List.mem_of_getElem? (i := 914) (by decide +kernel), List.mem_of_getElem? (i := 1148) (by decide +kernel), List.mem_of_getElem? (i := 1149) (by decide +kernel)⟩
theorem lw_p46 : lw_okq (⟨"MoodTownModel", "isOpen", "(I)Z"⟩, 35) := ⟨⟨by decide +kernel, by decide +kernel⟩, List.mem_of_getElem? (i := 914) (by decide +kernel), List.mem_of_getElem? (i := 1156) (by decide +kernel), List.mem_of_getElem? (i := 1157) (by decide +kernel)⟩
theorem lw_p47 : lw_okq (⟨"MoodTownModel", "forceOn", "(IZ)I"⟩, 35) := ⟨⟨by decide +kernel, by decide +kernel⟩, List.mem_of_getElem? (i := 914) (by decide +kernel), List.mem_of_getElem? (i := 1185) (by decide +kernel), List.mem_of_getElem? (i := 1186) (by decide +kernel)⟩
def lw_privs_3 : List (MethodName × Nat) := [(⟨"MoodTownModel", "lineNow", "()I"⟩, 35), (⟨"MoodTownModel", "is", "(III)Z"⟩, 35), (⟨"MoodTownModel", "ends", "(III)Z"⟩, 35), (⟨"MoodTownModel", "readLineOf", "(I)V"⟩, 35), (⟨"MoodTownModel", "readNumber", "(II)I"⟩, 35), (⟨"MoodTownModel", "looked", "(II)I"⟩, 35), (⟨"MoodTownModel", "readFree", "()I"⟩, 35), (⟨"MoodTownModel", "readGoal", "()V"⟩, 35), (⟨"MoodTownModel", "readOne", "(I)V"⟩, 35), (⟨"MoodTownModel", "isOne", "(I)Z"⟩, 35), (⟨"MoodTownModel", "isCell", "(I)Z"⟩, 35), (⟨"MoodTownModel", "starts", "()V"⟩, 35), (⟨"MoodTownModel", "whoIsIn", "(I)I"⟩, 35), (⟨"MoodTownModel", "becomes", "(II)I"⟩, 35), (⟨"MoodTownModel", "isOpen", "(I)Z"⟩, 35), (⟨"MoodTownModel", "forceOn", "(IZ)I"⟩, 35)]
theorem lw_r3 : ∀ q ∈ lw_privs_3, lw_okq q := List.forall_mem_cons.mpr ⟨lw_p32, List.forall_mem_cons.mpr ⟨lw_p33, List.forall_mem_cons.mpr ⟨lw_p34, List.forall_mem_cons.mpr ⟨lw_p35, List.forall_mem_cons.mpr ⟨lw_p36, List.forall_mem_cons.mpr ⟨lw_p37, List.forall_mem_cons.mpr ⟨lw_p38, List.forall_mem_cons.mpr ⟨lw_p39, List.forall_mem_cons.mpr ⟨lw_p40, List.forall_mem_cons.mpr ⟨lw_p41, List.forall_mem_cons.mpr ⟨lw_p42, List.forall_mem_cons.mpr ⟨lw_p43, List.forall_mem_cons.mpr ⟨lw_p44, List.forall_mem_cons.mpr ⟨lw_p45, List.forall_mem_cons.mpr ⟨lw_p46, List.forall_mem_cons.mpr ⟨lw_p47, fun _ h => absurd h List.not_mem_nil⟩⟩⟩⟩⟩⟩⟩⟩⟩⟩⟩⟩⟩⟩⟩⟩
theorem lw_p48 : lw_okq (⟨"MoodTownModel", "apart", "(II)I"⟩, 35) := ⟨⟨by decide +kernel, by decide +kernel⟩, List.mem_of_getElem? (i := 914) (by decide +kernel), List.mem_of_getElem? (i := 1189) (by decide +kernel), List.mem_of_getElem? (i := 1190) (by decide +kernel)⟩
theorem lw_p49 : lw_okq (⟨"MoodTownModel", "wishOf", "(I)I"⟩, 35) := ⟨⟨by decide +kernel, by decide +kernel⟩, List.mem_of_getElem? (i := 914) (by decide +kernel), List.mem_of_getElem? (i := 1203) (by decide +kernel), List.mem_of_getElem? (i := 1204) (by decide +kernel)⟩
theorem lw_p50 : lw_okq (⟨"MoodTownModel", "steps", "()Z"⟩, 35) := ⟨⟨by decide +kernel, by decide +kernel⟩, List.mem_of_getElem? (i := 914) (by decide +kernel), List.mem_of_getElem? (i := 1211) (by decide +kernel), List.mem_of_getElem? (i := 1212) (by decide +kernel)⟩
theorem lw_p51 : lw_okq (⟨"MoodTownModel", "beside", "(II)I"⟩, 35) := ⟨⟨by decide +kernel, by decide +kernel⟩, List.mem_of_getElem? (i := 914) (by decide +kernel), List.mem_of_getElem? (i := 1215) (by decide +kernel), List.mem_of_getElem? (i := 1216) (by decide +kernel)⟩
theorem lw_p52 : lw_okq (⟨"MoodTownModel", "isPressed", "(I)Z"⟩, 35) := ⟨⟨by decide +kernel, by decide +kernel⟩, List.mem_of_getElem? (i := 914) (by decide +kernel), List.mem_of_getElem? (i := 1219) (by decide +kernel), List.mem_of_getElem? (i := 1220) (by decide +kernel)⟩
theorem lw_p53 : lw_okq (⟨"MoodTownModel", "atGoals", "()I"⟩, 35) := ⟨⟨by decide +kernel, by decide +kernel⟩, List.mem_of_getElem? (i := 914) (by decide +kernel), List.mem_of_getElem? (i := 1235) (by decide +kernel), List.mem_of_getElem? (i := 1236) (by decide +kernel)⟩
theorem lw_p54 : lw_okq (⟨"MoodTownModel", "moodBy", "(II)I"⟩, 35) := ⟨⟨by decide +kernel, by decide +kernel⟩, List.mem_of_getElem? (i := 914) (by decide +kernel), List.mem_of_getElem? (i := 1260) (by decide +kernel), List.mem_of_getElem? (i := 1261) (by decide +kernel)⟩
theorem lw_p55 : lw_okq (⟨"MoodTownModel", "areAllThere", "(I)Z"⟩, 35) := ⟨⟨by decide +kernel, by decide +kernel⟩, List.mem_of_getElem? (i := 914) (by decide +kernel), List.mem_of_getElem? (i := 1264) (by decide +kernel), List.mem_of_getElem? (i := 1265) (by decide +kernel)⟩
theorem lw_p56 : lw_okq (⟨"MoodTownModel", "haveGoals", "()I"⟩, 35) := ⟨⟨by decide +kernel, by decide +kernel⟩, List.mem_of_getElem? (i := 914) (by decide +kernel), List.mem_of_getElem? (i := 1268) (by decide +kernel), List.mem_of_getElem? (i := 1269) (by decide +kernel)⟩
theorem lw_p57 : lw_okq (⟨"MoodTownModel", "copies", "(II)V"⟩, 35) := ⟨⟨by decide +kernel, by decide +kernel⟩, List.mem_of_getElem? (i := 914) (by decide +kernel), List.mem_of_getElem? (i := 1319) (by decide +kernel), List.mem_of_getElem? (i := 1320) (by decide +kernel)⟩
def lw_privs_4 : List (MethodName × Nat) := [(⟨"MoodTownModel", "apart", "(II)I"⟩, 35), (⟨"MoodTownModel", "wishOf", "(I)I"⟩, 35), (⟨"MoodTownModel", "steps", "()Z"⟩, 35), (⟨"MoodTownModel", "beside", "(II)I"⟩, 35), (⟨"MoodTownModel", "isPressed", "(I)Z"⟩, 35), (⟨"MoodTownModel", "atGoals", "()I"⟩, 35), (⟨"MoodTownModel", "moodBy", "(II)I"⟩, 35), (⟨"MoodTownModel", "areAllThere", "(I)Z"⟩, 35), (⟨"MoodTownModel", "haveGoals", "()I"⟩, 35), (⟨"MoodTownModel", "copies", "(II)V"⟩, 35)]
theorem lw_r4 : ∀ q ∈ lw_privs_4, lw_okq q := List.forall_mem_cons.mpr ⟨lw_p48, List.forall_mem_cons.mpr ⟨lw_p49, List.forall_mem_cons.mpr ⟨lw_p50, List.forall_mem_cons.mpr ⟨lw_p51, List.forall_mem_cons.mpr ⟨lw_p52, List.forall_mem_cons.mpr ⟨lw_p53, List.forall_mem_cons.mpr ⟨lw_p54, List.forall_mem_cons.mpr ⟨lw_p55, List.forall_mem_cons.mpr ⟨lw_p56, List.forall_mem_cons.mpr ⟨lw_p57, fun _ h => absurd h List.not_mem_nil⟩⟩⟩⟩⟩⟩⟩⟩⟩⟩
def lw_privs : List (MethodName × Nat) := lw_privs_1 ++ (lw_privs_2 ++ (lw_privs_3 ++ (lw_privs_4)))
def lw_tbl : List Cond := k2_sels lw_privs ++ tables_1
theorem lw_privs_ok : ∀ q ∈ lw_privs, lw_okq q := by
  show ∀ q ∈ lw_privs_1 ++ (lw_privs_2 ++ (lw_privs_3 ++ (lw_privs_4))), lw_okq q
  exact List.forall_mem_append.mpr ⟨lw_r1, List.forall_mem_append.mpr ⟨lw_r2, List.forall_mem_append.mpr ⟨lw_r3, lw_r4⟩⟩⟩
end
section
/-! THE PURE MACHINE: class tables (printed by wip/gen/gen02.py), then cells, one step, runs. -/
def lw_gt : List Cond := lw_tbl.filter goodWord
theorem lw_gi {w : Cond} (i : Nat) (h : lw_tbl[i]? = some w) (hg : goodWord w = true) : w ∈ lw_gt := List.mem_filter.mpr ⟨List.mem_of_getElem? h, hg⟩
def kN (o : Nat) : String := match o with
  | 0 => "MoodTown$Search"
  | 1 => "MoodTown$Sheet"
  | 2 => "MoodTown$Tape"
  | 3 => "MoodTown$Telling"
  | 4 => "MoodTown$Town"
  | 5 => "MoodTown$Walk"
  | 6 => "MoodTown"
  | 7 => "MoodTownModel"
  | 8 => "MoodTownLaw"
  | 9 => "java/util/Arrays"
  | 10 => "java/lang/Math"
  | 11 => "java/lang/Integer"
  | _ => ""
def kT0 : u_T := fun k => match k with
  | 0 => ("MoodTown$Search", "walk", "LMoodTown$Walk;", true)
  | 1 => ("MoodTown$Search", "trial", "LMoodTown$Town;", true)
  | _ => ("MoodTown$Search", "marks", "[J", true)
def kY0 : Nat → FieldType := fun k => match k with
  | 0 => .object "MoodTown$Walk"
  | 1 => .object "MoodTown$Town"
  | _ => .array .long
def kT1 : u_T := fun k => match k with
  | 0 => ("MoodTown$Sheet", "row", "[I", true)
  | 1 => ("MoodTown$Sheet", "size", "I", false)
  | _ => ("MoodTown$Sheet", "lane", "I", false)
def kY1 : Nat → FieldType := fun k => match k with
  | 0 => .array .int
  | 1 => .int
  | _ => .int
def kT2 : u_T := fun k => match k with
  | 0 => ("MoodTown$Tape", "bytes", "[B", true)
  | 1 => ("MoodTown$Tape", "length", "I", false)
  | 2 => ("MoodTown$Tape", "kind", "I", false)
  | 3 => ("MoodTown$Tape", "first", "I", false)
  | 4 => ("MoodTown$Tape", "value", "I", false)
  | _ => ("MoodTown$Tape", "place", "I", false)
def kY2 : Nat → FieldType := fun k => match k with
  | 0 => .array .byte
  | 1 => .int
  | 2 => .int
  | 3 => .int
  | 4 => .int
  | _ => .int
def kT3 : u_T := fun k => match k with
  | 0 => ("MoodTown$Telling", "told", "LMoodTown$Town;", true)
  | 1 => ("MoodTown$Telling", "lines", "I", false)
  | 2 => ("MoodTown$Telling", "fault", "I", false)
  | 3 => ("MoodTown$Telling", "faultPlace", "I", false)
  | 4 => ("MoodTown$Telling", "tape", "LMoodTown$Tape;", true)
  | 5 => ("MoodTown$Telling", "townTold", "Z", false)
  | 6 => ("MoodTown$Telling", "pullTold", "Z", false)
  | _ => ("MoodTown$Telling", "pressTold", "Z", false)
def kY3 : Nat → FieldType := fun k => match k with
  | 0 => .object "MoodTown$Town"
  | 1 => .int
  | 2 => .int
  | 3 => .int
  | 4 => .object "MoodTown$Tape"
  | 5 => .boolean
  | 6 => .boolean
  | _ => .boolean
def kT4 : u_T := fun k => match k with
  | 0 => ("MoodTown$Town", "wide", "I", false)
  | 1 => ("MoodTown$Town", "high", "I", false)
  | 2 => ("MoodTown$Town", "walls", "I", false)
  | 3 => ("MoodTown$Town", "people", "I", false)
  | 4 => ("MoodTown$Town", "press", "I", false)
  | 5 => ("MoodTown$Town", "step", "I", false)
  | 6 => ("MoodTown$Town", "seen", "I", false)
  | 7 => ("MoodTown$Town", "cells", "[I", true)
  | 8 => ("MoodTown$Town", "moods", "[I", true)
  | 9 => ("MoodTown$Town", "still", "[I", true)
  | 10 => ("MoodTown$Town", "goals", "[I", true)
  | 11 => ("MoodTown$Town", "pulls", "[I", true)
  | 12 => ("MoodTown$Town", "seenOnes", "[I", true)
  | _ => ("MoodTown$Town", "seenWays", "[I", true)
def kY4 : Nat → FieldType := fun k => match k with
  | 0 => .int
  | 1 => .int
  | 2 => .int
  | 3 => .int
  | 4 => .int
  | 5 => .int
  | 6 => .int
  | 7 => .array .int
  | 8 => .array .int
  | 9 => .array .int
  | 10 => .array .int
  | 11 => .array .int
  | 12 => .array .int
  | _ => .array .int
def kT5 : u_T := fun k => match k with
  | 0 => ("MoodTown$Walk", "columns", "[I", true)
  | 1 => ("MoodTown$Walk", "rows", "[I", true)
  | 2 => ("MoodTown$Walk", "easts", "[I", true)
  | 3 => ("MoodTown$Walk", "souths", "[I", true)
  | 4 => ("MoodTown$Walk", "ways", "[I", true)
  | 5 => ("MoodTown$Walk", "went", "I", false)
  | _ => ("MoodTown$Walk", "flipped", "I", false)
def kY5 : Nat → FieldType := fun k => match k with
  | 0 => .array .int
  | 1 => .array .int
  | 2 => .array .int
  | 3 => .array .int
  | 4 => .array .int
  | 5 => .int
  | _ => .int
def kT6 : u_T := fun k => match k with
  | 0 => ("MoodTown", "tape", "LMoodTown$Tape;", true)
  | 1 => ("MoodTown", "telling", "LMoodTown$Telling;", true)
  | 2 => ("MoodTown", "town", "LMoodTown$Town;", true)
  | 3 => ("MoodTown", "walk", "LMoodTown$Walk;", true)
  | 4 => ("MoodTown", "search", "LMoodTown$Search;", true)
  | 5 => ("MoodTown", "images", "[LMoodTown$Town;", true)
  | 6 => ("MoodTown", "sheets", "[LMoodTown$Sheet;", true)
  | 7 => ("MoodTown", "keptBits", "I", false)
  | _ => ("MoodTown", "latestTorn", "I", false)
def kY6 : Nat → FieldType := fun k => match k with
  | 0 => .object "MoodTown$Tape"
  | 1 => .object "MoodTown$Telling"
  | 2 => .object "MoodTown$Town"
  | 3 => .object "MoodTown$Walk"
  | 4 => .object "MoodTown$Search"
  | 5 => .array (.object "MoodTown$Town")
  | 6 => .array (.object "MoodTown$Sheet")
  | 7 => .int
  | _ => .int
def kT7 : u_T := fun k => match k with
  | 0 => ("MoodTownModel", "st", "[I", true)
  | 1 => ("MoodTownModel", "isKept", "[Z", true)
  | 2 => ("MoodTownModel", "wide", "I", false)
  | 3 => ("MoodTownModel", "high", "I", false)
  | 4 => ("MoodTownModel", "people", "I", false)
  | 5 => ("MoodTownModel", "draft", "[I", true)
  | 6 => ("MoodTownModel", "dWide", "I", false)
  | 7 => ("MoodTownModel", "dHigh", "I", false)
  | 8 => ("MoodTownModel", "dPeople", "I", false)
  | 9 => ("MoodTownModel", "toldLines", "I", false)
  | 10 => ("MoodTownModel", "highestCell", "I", false)
  | 11 => ("MoodTownModel", "highestOne", "I", false)
  | 12 => ("MoodTownModel", "tape", "[I", true)
  | 13 => ("MoodTownModel", "taped", "I", false)
  | 14 => ("MoodTownModel", "pos", "I", false)
  | 15 => ("MoodTownModel", "from", "I", false)
  | 16 => ("MoodTownModel", "sort", "I", false)
  | 17 => ("MoodTownModel", "value", "I", false)
  | 18 => ("MoodTownModel", "fault", "I", false)
  | 19 => ("MoodTownModel", "wrongAt", "I", false)
  | 20 => ("MoodTownModel", "at", "[I", true)
  | 21 => ("MoodTownModel", "feels", "[I", true)
  | 22 => ("MoodTownModel", "stills", "[I", true)
  | 23 => ("MoodTownModel", "goals", "[I", true)
  | 24 => ("MoodTownModel", "wishes", "[I", true)
  | 25 => ("MoodTownModel", "went", "[I", true)
  | 26 => ("MoodTownModel", "flips", "[I", true)
  | 27 => ("MoodTownModel", "many", "I", false)
  | 28 => ("MoodTownModel", "cellRows", "[I", true)
  | 29 => ("MoodTownModel", "moodRows", "[I", true)
  | 30 => ("MoodTownModel", "lanes", "[I", true)
  | 31 => ("MoodTownModel", "sizes", "[I", true)
  | 32 => ("MoodTownModel", "cells", "[I", true)
  | 33 => ("MoodTownModel", "torn", "I", false)
  | _ => ("MoodTownModel", "had", "[I", true)
def kY7 : Nat → FieldType := fun k => match k with
  | 0 => .array .int
  | 1 => .array .boolean
  | 2 => .int
  | 3 => .int
  | 4 => .int
  | 5 => .array .int
  | 6 => .int
  | 7 => .int
  | 8 => .int
  | 9 => .int
  | 10 => .int
  | 11 => .int
  | 12 => .array .int
  | 13 => .int
  | 14 => .int
  | 15 => .int
  | 16 => .int
  | 17 => .int
  | 18 => .int
  | 19 => .int
  | 20 => .array .int
  | 21 => .array .int
  | 22 => .array .int
  | 23 => .array .int
  | 24 => .array .int
  | 25 => .array .int
  | 26 => .array .int
  | 27 => .int
  | 28 => .array .int
  | 29 => .array .int
  | 30 => .array .int
  | 31 => .array .int
  | 32 => .array .int
  | 33 => .int
  | _ => .array .int
def kT (ci : Nat) : u_T := match ci with
  | 0 => kT0
  | 1 => kT1
  | 2 => kT2
  | 3 => kT3
  | 4 => kT4
  | 5 => kT5
  | 6 => kT6
  | _ => kT7
def kY (ci : Nat) : Nat → FieldType := match ci with
  | 0 => kY0
  | 1 => kY1
  | 2 => kY2
  | 3 => kY3
  | 4 => kY4
  | 5 => kY5
  | 6 => kY6
  | _ => kY7
def kM (ci : Nat) : Nat := match ci with
  | 0 => 3
  | 1 => 3
  | 2 => 6
  | 3 => 8
  | 4 => 14
  | 5 => 7
  | 6 => 9
  | _ => 35
def kZ (ci : Nat) : List Value := match ci with
  | 0 => [.null, .null, .null]
  | 1 => [.null, .int 0, .int 0]
  | 2 => [.null, .int 0, .int 0, .int 0, .int 0, .int 0]
  | 3 => [.null, .int 0, .int 0, .int 0, .null, .int 0, .int 0, .int 0]
  | 4 => [.int 0, .int 0, .int 0, .int 0, .int 0, .int 0, .int 0, .null, .null, .null, .null, .null, .null, .null]
  | 5 => [.null, .null, .null, .null, .null, .int 0, .int 0]
  | 6 => [.null, .null, .null, .null, .null, .null, .null, .int 0, .int 0]
  | _ => [.null, .null, .int 0, .int 0, .int 0, .null, .int 0, .int 0, .int 0, .int 0, .int 0, .int 0, .null, .int 0, .int 0, .int 0, .int 0, .int 0, .int 0, .int 0, .null, .null, .null, .null, .null, .null, .null, .int 0, .null, .null, .null, .null, .null, .int 0, .null]
def kC : List vw_C := [(kN 0, kT 0, kM 0), (kN 1, kT 1, kM 1), (kN 2, kT 2, kM 2), (kN 3, kT 3, kM 3), (kN 4, kT 4, kM 4), (kN 5, kT 5, kM 5), (kN 6, kT 6, kM 6), (kN 7, kT 7, kM 7)]
def kJ0 : List Nat := [291, 293, 295]
theorem kI0 : ∀ w ∈ u_ws (kN 0) (kT 0) (kM 0), w ∈ lw_gt := by
  have h : u_ws (kN 0) (kT 0) (kM 0) = kJ0.filterMap (fun i => lw_tbl[i]?) := by decide +kernel
  have hg : (u_ws (kN 0) (kT 0) (kM 0)).all goodWord = true := by decide +kernel
  intro w hw
  have hw2 := List.all_eq_true.mp hg w hw
  rw [h] at hw
  obtain ⟨i, -, hi⟩ := List.mem_filterMap.mp hw
  exact lw_gi i hi hw2
def kJ1 : List Nat := [312, 314, 316]
theorem kI1 : ∀ w ∈ u_ws (kN 1) (kT 1) (kM 1), w ∈ lw_gt := by
  have h : u_ws (kN 1) (kT 1) (kM 1) = kJ1.filterMap (fun i => lw_tbl[i]?) := by decide +kernel
  have hg : (u_ws (kN 1) (kT 1) (kM 1)).all goodWord = true := by decide +kernel
  intro w hw
  have hw2 := List.all_eq_true.mp hg w hw
  rw [h] at hw
  obtain ⟨i, -, hi⟩ := List.mem_filterMap.mp hw
  exact lw_gi i hi hw2
def kJ2 : List Nat := [100, 102, 104, 106, 108, 110]
theorem kI2 : ∀ w ∈ u_ws (kN 2) (kT 2) (kM 2), w ∈ lw_gt := by
  have h : u_ws (kN 2) (kT 2) (kM 2) = kJ2.filterMap (fun i => lw_tbl[i]?) := by decide +kernel
  have hg : (u_ws (kN 2) (kT 2) (kM 2)).all goodWord = true := by decide +kernel
  intro w hw
  have hw2 := List.all_eq_true.mp hg w hw
  rw [h] at hw
  obtain ⟨i, -, hi⟩ := List.mem_filterMap.mp hw
  exact lw_gi i hi hw2
def kJ3 : List Nat := [228, 230, 232, 234, 236, 238, 240, 242]
theorem kI3 : ∀ w ∈ u_ws (kN 3) (kT 3) (kM 3), w ∈ lw_gt := by
  have h : u_ws (kN 3) (kT 3) (kM 3) = kJ3.filterMap (fun i => lw_tbl[i]?) := by decide +kernel
  have hg : (u_ws (kN 3) (kT 3) (kM 3)).all goodWord = true := by decide +kernel
  intro w hw
  have hw2 := List.all_eq_true.mp hg w hw
  rw [h] at hw
  obtain ⟨i, -, hi⟩ := List.mem_filterMap.mp hw
  exact lw_gi i hi hw2
def kJ4 : List Nat := [186, 188, 190, 192, 194, 196, 198, 200, 202, 204, 206, 208, 210, 212]
theorem kI4 : ∀ w ∈ u_ws (kN 4) (kT 4) (kM 4), w ∈ lw_gt := by
  have h : u_ws (kN 4) (kT 4) (kM 4) = kJ4.filterMap (fun i => lw_tbl[i]?) := by decide +kernel
  have hg : (u_ws (kN 4) (kT 4) (kM 4)).all goodWord = true := by decide +kernel
  intro w hw
  have hw2 := List.all_eq_true.mp hg w hw
  rw [h] at hw
  obtain ⟨i, -, hi⟩ := List.mem_filterMap.mp hw
  exact lw_gi i hi hw2
def kJ5 : List Nat := [265, 267, 269, 271, 273, 275, 277]
theorem kI5 : ∀ w ∈ u_ws (kN 5) (kT 5) (kM 5), w ∈ lw_gt := by
  have h : u_ws (kN 5) (kT 5) (kM 5) = kJ5.filterMap (fun i => lw_tbl[i]?) := by decide +kernel
  have hg : (u_ws (kN 5) (kT 5) (kM 5)).all goodWord = true := by decide +kernel
  intro w hw
  have hw2 := List.all_eq_true.mp hg w hw
  rw [h] at hw
  obtain ⟨i, -, hi⟩ := List.mem_filterMap.mp hw
  exact lw_gi i hi hw2
def kJ6 : List Nat := [328, 330, 332, 334, 336, 338, 340, 342, 344]
theorem kI6 : ∀ w ∈ u_ws (kN 6) (kT 6) (kM 6), w ∈ lw_gt := by
  have h : u_ws (kN 6) (kT 6) (kM 6) = kJ6.filterMap (fun i => lw_tbl[i]?) := by decide +kernel
  have hg : (u_ws (kN 6) (kT 6) (kM 6)).all goodWord = true := by decide +kernel
  intro w hw
  have hw2 := List.all_eq_true.mp hg w hw
  rw [h] at hw
  obtain ⟨i, -, hi⟩ := List.mem_filterMap.mp hw
  exact lw_gi i hi hw2
def kJ7 : List Nat := [1020, 1022, 1024, 1026, 1028, 1030, 1032, 1034, 1036, 1038, 1040, 1042, 1044, 1046, 1048, 1050, 1052, 1054, 1056, 1058, 1060, 1062, 1064, 1066, 1068, 1070, 1072, 1074, 1076, 1078, 1080, 1082, 1084, 1086, 1088]
theorem kI7 : ∀ w ∈ u_ws (kN 7) (kT 7) (kM 7), w ∈ lw_gt := by
  have h : u_ws (kN 7) (kT 7) (kM 7) = kJ7.filterMap (fun i => lw_tbl[i]?) := by decide +kernel
  have hg : (u_ws (kN 7) (kT 7) (kM 7)).all goodWord = true := by decide +kernel
  intro w hw
  have hw2 := List.all_eq_true.mp hg w hw
  rw [h] at hw
  obtain ⟨i, -, hi⟩ := List.mem_filterMap.mp hw
  exact lw_gi i hi hw2
theorem kI (ci : Nat) (h : ci < 8) : ∀ w ∈ u_ws (kN ci) (kT ci) (kM ci), w ∈ lw_gt := by
  match ci, h with
  | 0, _ => exact kI0
  | 1, _ => exact kI1
  | 2, _ => exact kI2
  | 3, _ => exact kI3
  | 4, _ => exact kI4
  | 5, _ => exact kI5
  | 6, _ => exact kI6
  | 7, _ => exact kI7
theorem kCi (ci : Nat) (h : ci < 8) : kC[ci]? = some (kN ci, kT ci, kM ci) := by
  match ci, h with
  | 0, _ => rfl
  | 1, _ => rfl
  | 2, _ => rfl
  | 3, _ => rfl
  | 4, _ => rfl
  | 5, _ => rfl
  | 6, _ => rfl
  | 7, _ => rfl
theorem kYok (ci : Nat) (h : ci < 8) : ∀ k, k < kM ci → parseFieldDescriptor (kT ci k).2.2.1 = some (kY ci k) := by
  match ci, h with
  | 0, _ => decide +kernel
  | 1, _ => decide +kernel
  | 2, _ => decide +kernel
  | 3, _ => decide +kernel
  | 4, _ => decide +kernel
  | 5, _ => decide +kernel
  | 6, _ => decide +kernel
  | 7, _ => decide +kernel
theorem kNm (ci : Nat) (h : ci < 8) : ∀ a, a < kM ci → ∀ b, b < kM ci → a ≠ b → (kT ci a).2.1 ≠ (kT ci b).2.1 := by
  match ci, h with
  | 0, _ => decide +kernel
  | 1, _ => decide +kernel
  | 2, _ => decide +kernel
  | 3, _ => decide +kernel
  | 4, _ => decide +kernel
  | 5, _ => decide +kernel
  | 6, _ => decide +kernel
  | 7, _ => decide +kernel
theorem kZok (ci : Nat) (h : ci < 8) : ∀ j, j < kM ci → defaultValue (kY ci j) = vp_V (kZ ci) j := by
  match ci, h with
  | 0, _ => decide +kernel
  | 1, _ => decide +kernel
  | 2, _ => decide +kernel
  | 3, _ => decide +kernel
  | 4, _ => decide +kernel
  | 5, _ => decide +kernel
  | 6, _ => decide +kernel
  | 7, _ => decide +kernel
theorem kTown (ci : Nat) (h : ci < 8) : ∀ k, k < kM ci → (kT ci k).1 = kN ci := by
  match ci, h with
  | 0, _ => decide +kernel
  | 1, _ => decide +kernel
  | 2, _ => decide +kernel
  | 3, _ => decide +kernel
  | 4, _ => decide +kernel
  | 5, _ => decide +kernel
  | 6, _ => decide +kernel
  | 7, _ => decide +kernel
end
section
/-! THE PURE MACHINE. A reference is a number: 0 the script, 8 + i the i-th cell that the run has made. -/
abbrev pm_C : Type := (Nat × List Int32) ⊕ ((Nat × List Int64) ⊕ ((Nat × List (Option Nat)) ⊕ (Nat × List Value)))
abbrev pm_H : Type := List pm_C
abbrev pm_L : Type := List (Nat × Value)
abbrev pm_R : Type := Option (Option Value × pm_H)
abbrev pm_E : Type := Instr × Nat × Nat × Int
abbrev pm_K : Type := Nat → pm_L → List Value → pm_H → Nat → Nat → pm_R
/-- a method: name, bytes, locals, answer, class, arguments (the receiver too), frames, words, cells, slots, code -/
abbrev pm_M : Type := MethodName × ByteArray × Nat × Option FieldType × Nat × Nat × Nat × Nat × Nat × Nat × List (List (Option pm_E))
def pm_y (m : pm_M) : MethodName := m.1
def pm_b (m : pm_M) : ByteArray := m.2.1
def pm_ml (m : pm_M) : Nat := m.2.2.1
def pm_rt (m : pm_M) : Option FieldType := m.2.2.2.1
def pm_o (m : pm_M) : Nat := m.2.2.2.2.1
def pm_n (m : pm_M) : Nat := m.2.2.2.2.2.1
def pm_f (m : pm_M) : Nat := m.2.2.2.2.2.2.1
def pm_w (m : pm_M) : Nat := m.2.2.2.2.2.2.2.1
def pm_c (m : pm_M) : Nat := m.2.2.2.2.2.2.2.2.1
def pm_s (m : pm_M) : Nat := m.2.2.2.2.2.2.2.2.2.1
def pm_t (m : pm_M) : List (List (Option pm_E)) := m.2.2.2.2.2.2.2.2.2.2
def pm_rm (m : pm_M) : Room := { frames := pm_f m, cells := pm_c m, slots := pm_s m, locals := pm_w m }
def pm_at (m : pm_M) (pc : Nat) : Option pm_E := match (pm_t m)[pc / 16]? with
  | none => none
  | some ch => match ch[pc % 16]? with
    | some (some e) => some e
    | _ => none
def pm_len : Instr → Nat
  | .bipush _ | .ldc _ | .iload _ | .lload _ | .aload _ | .istore _ | .lstore _ | .astore _ | .newarray _ => 2
  | .sipush _ | .ldc_w _ | .ldc2_w _ | .iinc _ _ | .ifCond _ _ | .if_icmp _ _ | .goto _ | .getfield _ | .putfield _ | .invokevirtual _ | .invokespecial _ | .invokestatic _ | .new _ | .anewarray _ => 3
  | _ => 1
def pm_cell (h : pm_H) (a : Nat) : Option pm_C := if a < 8 then none else h[a - 8]?
def pm_s1 (lv : pm_L) (i : Nat) (v : Value) : pm_L := (i, v) :: lv.filter (fun q => !(q.1 == i) && !(q.1 + 1 == i && q.2.category == 2))
def pm_s2 (lv : pm_L) (i : Nat) (v : Value) : pm_L := (i, v) :: lv.filter (fun q => !(q.1 == i) && (!(q.1 == i + 1) && !(q.1 + 1 == i && q.2.category == 2)))
def pm_fit : FieldType → Value → Bool
  | .int, .int _ => true
  | .long, .long _ => true
  | .boolean, .int v => v == 0 || v == 1
  | .object _, .ref _ => true
  | .array _, .ref _ => true
  | _, _ => false
def pm_cpy {α : Type} (f g : List α) (sp dp n : Nat) : List α := g.take dp ++ ((f.drop sp).take n ++ g.drop (dp + n))
section Step
variable (k : pm_K)
def pm_bi (f : Int32 → Int32 → Int32) (pc : Nat) (lv : pm_L) (st : List Value) (h : pm_H) (c sl : Nat) : pm_R := match st with
  | .int y :: .int x :: r => k (pc + 1) lv (.int (f x y) :: r) h c sl
  | _ => none
def pm_bz (f : Int32 → Int32 → Int32) (pc : Nat) (lv : pm_L) (st : List Value) (h : pm_H) (c sl : Nat) : pm_R := match st with
  | .int y :: .int x :: r => if y = 0 then none else k (pc + 1) lv (.int (f x y) :: r) h c sl
  | _ => none
def pm_bl (f : Int64 → Int64 → Int64) (pc : Nat) (lv : pm_L) (st : List Value) (h : pm_H) (c sl : Nat) : pm_R := match st with
  | .long y :: .long x :: r => k (pc + 1) lv (.long (f x y) :: r) h c sl
  | _ => none
def pm_blz (f : Int64 → Int64 → Int64) (pc : Nat) (lv : pm_L) (st : List Value) (h : pm_H) (c sl : Nat) : pm_R := match st with
  | .long y :: .long x :: r => if y = 0 then none else k (pc + 1) lv (.long (f x y) :: r) h c sl
  | _ => none
def pm_u (f : Int32 → Int32) (pc : Nat) (lv : pm_L) (st : List Value) (h : pm_H) (c sl : Nat) : pm_R := match st with
  | .int x :: r => k (pc + 1) lv (.int (f x) :: r) h c sl
  | _ => none
def pm_ldi (i npc : Nat) (lv : pm_L) (st : List Value) (h : pm_H) (c sl : Nat) : pm_R := match lv.lookup i with
  | some (.int x) => k npc lv (.int x :: st) h c sl
  | _ => none
def pm_ldl (i npc : Nat) (lv : pm_L) (st : List Value) (h : pm_H) (c sl : Nat) : pm_R := match lv.lookup i with
  | some (.long x) => k npc lv (.long x :: st) h c sl
  | _ => none
def pm_lda (i npc : Nat) (lv : pm_L) (st : List Value) (h : pm_H) (c sl : Nat) : pm_R := match lv.lookup i with
  | some (.ref x) => k npc lv (.ref x :: st) h c sl
  | _ => none
def pm_sti (nL i npc : Nat) (lv : pm_L) (st : List Value) (h : pm_H) (c sl : Nat) : pm_R := match st with
  | .int x :: r => if i < nL then k npc (pm_s1 lv i (.int x)) r h c sl else none
  | _ => none
def pm_sta (nL i npc : Nat) (lv : pm_L) (st : List Value) (h : pm_H) (c sl : Nat) : pm_R := match st with
  | .ref x :: r => if i < nL then k npc (pm_s1 lv i (.ref x)) r h c sl else none
  | _ => none
def pm_stl (nL i npc : Nat) (lv : pm_L) (st : List Value) (h : pm_H) (c sl : Nat) : pm_R := match st with
  | .long x :: r => if i + 1 < nL then k npc (pm_s2 lv i (.long x)) r h c sl else none
  | _ => none
def pm_iinc (nL i : Nat) (n : Int) (pc : Nat) (lv : pm_L) (st : List Value) (h : pm_H) (c sl : Nat) : pm_R := match lv.lookup i with
  | some (.int x) => if i < nL then k (pc + 3) (pm_s1 lv i (.int (x + Int32.ofInt n))) st h c sl else none
  | _ => none
def pm_if (cd : ClassFile.Cond) (tgt pc : Nat) (lv : pm_L) (st : List Value) (h : pm_H) (c sl : Nat) : pm_R := match st with
  | .int x :: r => match cd with
    | .eq => if x = 0 then k tgt lv r h c sl else k (pc + 3) lv r h c sl
    | .ne => if x = 0 then k (pc + 3) lv r h c sl else k tgt lv r h c sl
    | .lt => if x < 0 then k tgt lv r h c sl else k (pc + 3) lv r h c sl
    | .ge => if 0 ≤ x then k tgt lv r h c sl else k (pc + 3) lv r h c sl
    | .gt => if 0 < x then k tgt lv r h c sl else k (pc + 3) lv r h c sl
    | .le => if x ≤ 0 then k tgt lv r h c sl else k (pc + 3) lv r h c sl
  | _ => none
def pm_ic (cd : ClassFile.Cond) (tgt pc : Nat) (lv : pm_L) (st : List Value) (h : pm_H) (c sl : Nat) : pm_R := match st with
  | .int y :: .int x :: r => match cd with
    | .eq => if x = y then k tgt lv r h c sl else k (pc + 3) lv r h c sl
    | .ne => if x = y then k (pc + 3) lv r h c sl else k tgt lv r h c sl
    | .lt => if x < y then k tgt lv r h c sl else k (pc + 3) lv r h c sl
    | .ge => if y ≤ x then k tgt lv r h c sl else k (pc + 3) lv r h c sl
    | .gt => if y < x then k tgt lv r h c sl else k (pc + 3) lv r h c sl
    | .le => if x ≤ y then k tgt lv r h c sl else k (pc + 3) lv r h c sl
  | _ => none
def pm_jump (t : Int) (lv : pm_L) (st : List Value) (h : pm_H) (c sl : Nat) : pm_R := if 0 ≤ t then k t.toNat lv st h c sl else none
def pm_tsw (d lo hi : Int) (offs : Array Int) (pc : Nat) (lv : pm_L) (st : List Value) (h : pm_H) (c sl : Nat) : pm_R := match st with
  | .int x :: r => if x.toInt < lo then pm_jump k ((pc : Int) + d) lv r h c sl
    else if hi < x.toInt then pm_jump k ((pc : Int) + d) lv r h c sl
    else match offs[(x.toInt - lo).toNat]? with
      | some off => pm_jump k ((pc : Int) + off) lv r h c sl
      | none => none
  | _ => none
def pm_getf (ci f pc : Nat) (lv : pm_L) (st : List Value) (h : pm_H) (c sl : Nat) : pm_R := match st with
  | .ref a :: r => match pm_cell h a with
    | some (.inr (.inr (.inr (cj, fs)))) => if cj = ci then (match fs[f]? with
      | some v => k (pc + 3) lv (v :: r) h c sl
      | none => none) else none
    | _ => none
  | _ => none
def pm_putf (ci f pc : Nat) (lv : pm_L) (st : List Value) (h : pm_H) (c sl : Nat) : pm_R := match st with
  | v :: .ref a :: r => match pm_cell h a with
    | some (.inr (.inr (.inr (cj, fs)))) => if cj = ci then (if f < fs.length then (match pm_fit (kY ci f) v with
      | true => k (pc + 3) lv r (h.set (a - 8) (.inr (.inr (.inr (ci, fs.set f v))))) c sl
      | false => none) else none) else none
    | _ => none
  | _ => none
def pm_iald (xs : List Int32) (pc : Nat) (lv : pm_L) (st : List Value) (h : pm_H) (c sl : Nat) : pm_R := match st with
  | .int i :: .ref a :: r => if i < 0 then none else if a = 0 then (match xs[i.toNatClampNeg]? with
      | some x => k (pc + 1) lv (.int x :: r) h c sl
      | none => none)
    else match pm_cell h a with
      | some (.inl (t, l)) => if t = 0 then (match l[i.toNatClampNeg]? with
        | some x => k (pc + 1) lv (.int x :: r) h c sl
        | none => none) else none
      | _ => none
  | _ => none
def pm_bald (pc : Nat) (lv : pm_L) (st : List Value) (h : pm_H) (c sl : Nat) : pm_R := match st with
  | .int i :: .ref a :: r => if i < 0 then none else match pm_cell h a with
      | some (.inl (t, l)) => if t = 1 ∨ t = 2 then (match l[i.toNatClampNeg]? with
        | some x => k (pc + 1) lv (.int x :: r) h c sl
        | none => none) else none
      | _ => none
  | _ => none
def pm_lald (pc : Nat) (lv : pm_L) (st : List Value) (h : pm_H) (c sl : Nat) : pm_R := match st with
  | .int i :: .ref a :: r => if i < 0 then none else match pm_cell h a with
      | some (.inr (.inl (t, l))) => if t = 3 then (match l[i.toNatClampNeg]? with
        | some x => k (pc + 1) lv (.long x :: r) h c sl
        | none => none) else none
      | _ => none
  | _ => none
def pm_aald (pc : Nat) (lv : pm_L) (st : List Value) (h : pm_H) (c sl : Nat) : pm_R := match st with
  | .int i :: .ref a :: r => if i < 0 then none else match pm_cell h a with
      | some (.inr (.inr (.inl (t, l)))) => if t = 4 ∨ t = 5 then (match l[i.toNatClampNeg]? with
        | some (some x) => k (pc + 1) lv (.ref x :: r) h c sl
        | _ => none) else none
      | _ => none
  | _ => none
def pm_iast (pc : Nat) (lv : pm_L) (st : List Value) (h : pm_H) (c sl : Nat) : pm_R := match st with
  | .int x :: .int i :: .ref a :: r => if i < 0 then none else match pm_cell h a with
      | some (.inl (t, l)) => if t = 0 then (if i.toNatClampNeg < l.length then k (pc + 1) lv r (h.set (a - 8) (.inl (0, l.set i.toNatClampNeg x))) c sl else none) else none
      | _ => none
  | _ => none
def pm_bast (pc : Nat) (lv : pm_L) (st : List Value) (h : pm_H) (c sl : Nat) : pm_R := match st with
  | .int x :: .int i :: .ref a :: r => if i < 0 then none else match pm_cell h a with
      | some (.inl (t, l)) => if t = 1 then (if i.toNatClampNeg < l.length then k (pc + 1) lv r (h.set (a - 8) (.inl (1, l.set i.toNatClampNeg x.toInt8.toInt32))) c sl else none)
        else if t = 2 then (if i.toNatClampNeg < l.length then k (pc + 1) lv r (h.set (a - 8) (.inl (2, l.set i.toNatClampNeg (x &&& 1)))) c sl else none) else none
      | _ => none
  | _ => none
def pm_last (pc : Nat) (lv : pm_L) (st : List Value) (h : pm_H) (c sl : Nat) : pm_R := match st with
  | .long x :: .int i :: .ref a :: r => if i < 0 then none else match pm_cell h a with
      | some (.inr (.inl (t, l))) => if t = 3 then (if i.toNatClampNeg < l.length then k (pc + 1) lv r (h.set (a - 8) (.inr (.inl (3, l.set i.toNatClampNeg x)))) c sl else none) else none
      | _ => none
  | _ => none
def pm_comp (t : Nat) : Nat := if t = 4 then 4 else 1
def pm_aast (pc : Nat) (lv : pm_L) (st : List Value) (h : pm_H) (c sl : Nat) : pm_R := match st with
  | .ref v :: .int i :: .ref a :: r => if i < 0 then none else match pm_cell h a, pm_cell h v with
      | some (.inr (.inr (.inl (t, l)))), some (.inr (.inr (.inr (cj, _)))) => if t = 4 ∨ t = 5 then (if cj = pm_comp t then (if i.toNatClampNeg < l.length then k (pc + 1) lv r (h.set (a - 8) (.inr (.inr (.inl (t, l.set i.toNatClampNeg (some v)))))) c sl else none) else none) else none
      | _, _ => none
  | _ => none
def pm_alen (xs : List Int32) (pc : Nat) (lv : pm_L) (st : List Value) (h : pm_H) (c sl : Nat) : pm_R := match st with
  | .ref a :: r => if a = 0 then k (pc + 1) lv (.int (Int32.ofNat xs.length) :: r) h c sl else match pm_cell h a with
      | some (.inl (t, l)) => if t < 3 then k (pc + 1) lv (.int (Int32.ofNat l.length) :: r) h c sl else none
      | _ => none
  | _ => none
def pm_new (mm : pm_M) (ci pc : Nat) (lv : pm_L) (st : List Value) (h : pm_H) (c sl : Nat) : pm_R :=
  if c + 1 ≤ pm_c mm then (if sl + kM ci ≤ pm_s mm then k (pc + 3) lv (.ref (8 + h.length) :: st) (h ++ [.inr (.inr (.inr (ci, kZ ci)))]) (c + 1) (sl + kM ci) else none) else none
def pm_newa (mm : pm_M) (at_ : ArrayType) (pc : Nat) (lv : pm_L) (st : List Value) (h : pm_H) (c sl : Nat) : pm_R := match st with
  | .int n :: r => if n < 0 then none else if n.toNatClampNeg ≤ 1000000 then (if c + 1 ≤ pm_c mm then (if sl + n.toNatClampNeg ≤ pm_s mm then (match at_ with
      | .int => k (pc + 2) lv (.ref (8 + h.length) :: r) (h ++ [.inl (0, List.replicate n.toNatClampNeg 0)]) (c + 1) (sl + n.toNatClampNeg)
      | .byte => k (pc + 2) lv (.ref (8 + h.length) :: r) (h ++ [.inl (1, List.replicate n.toNatClampNeg 0)]) (c + 1) (sl + n.toNatClampNeg)
      | .boolean => k (pc + 2) lv (.ref (8 + h.length) :: r) (h ++ [.inl (2, List.replicate n.toNatClampNeg 0)]) (c + 1) (sl + n.toNatClampNeg)
      | .long => k (pc + 2) lv (.ref (8 + h.length) :: r) (h ++ [.inr (.inl (3, List.replicate n.toNatClampNeg 0))]) (c + 1) (sl + n.toNatClampNeg)
      | _ => none) else none) else none) else none
  | _ => none
def pm_anew (mm : pm_M) (t pc : Nat) (lv : pm_L) (st : List Value) (h : pm_H) (c sl : Nat) : pm_R := match st with
  | .int n :: r => if n < 0 then none else if n.toNatClampNeg ≤ 1000000 then (if c + 1 ≤ pm_c mm then (if sl + n.toNatClampNeg ≤ pm_s mm then
      k (pc + 3) lv (.ref (8 + h.length) :: r) (h ++ [.inr (.inr (.inl (t, List.replicate n.toNatClampNeg none)))]) (c + 1) (sl + n.toNatClampNeg) else none) else none) else none
  | _ => none
def pm_copy (pc : Nat) (lv : pm_L) (st : List Value) (h : pm_H) (c sl : Nat) : pm_R := match st with
  | [.int n, .int dp, .ref a, .int sp, .ref b] => if sp < 0 then none else if dp < 0 then none else if n < 0 then none else match pm_cell h a, pm_cell h b with
      | some (.inl (t, g)), some (.inl (u, f)) => if t = 0 ∧ u = 0 then (if sp.toNatClampNeg + n.toNatClampNeg ≤ f.length then (if dp.toNatClampNeg + n.toNatClampNeg ≤ g.length then
          k (pc + 3) lv [] (h.set (a - 8) (.inl (0, pm_cpy f g sp.toNatClampNeg dp.toNatClampNeg n.toNatClampNeg))) c sl else none) else none) else none
      | _, _ => none
  | _ => none
def pm_call (big : Nat → List Value → pm_H → pm_R) (mm m2 : pm_M) (M2 : Nat) (pc : Nat) (lv : pm_L) (as rest : List Value) (h : pm_H) (c sl : Nat) : pm_R :=
  if (rest.map Value.category).sum ≤ 8 then (if c + pm_c m2 ≤ pm_c mm then (if sl + pm_s m2 ≤ pm_s mm then (match big M2 as h with
    | some (r, h') => k (pc + 3) lv (r.toList ++ rest) h' (c + pm_c m2) (sl + pm_s m2)
    | none => none) else none) else none) else none
def pm_inv (tab : Nat → Option pm_M) (big : Nat → List Value → pm_H → pm_R) (mm : pm_M) (M2 : Nat) (pc : Nat) (lv : pm_L) (st : List Value) (h : pm_H) (c sl : Nat) : pm_R := match tab M2 with
  | none => none
  | some m2 => if pm_n m2 ≤ st.length then (match (st.take (pm_n m2)).reverse with
      | .ref a :: as => (match pm_cell h a with
        | some (.inr (.inr (.inr (cj, _)))) => if cj = pm_o m2 then pm_call k big mm m2 M2 pc lv (.ref a :: as) (st.drop (pm_n m2)) h c sl else none
        | _ => none)
      | _ => none) else none
def pm_ins (tab : Nat → Option pm_M) (big : Nat → List Value → pm_H → pm_R) (mm : pm_M) (M2 : Nat) (pc : Nat) (lv : pm_L) (st : List Value) (h : pm_H) (c sl : Nat) : pm_R := match tab M2 with
  | none => none
  | some m2 => if pm_n m2 ≤ st.length then pm_call k big mm m2 M2 pc lv (st.take (pm_n m2)).reverse (st.drop (pm_n m2)) h c sl else none
def pm_obj (pc : Nat) (lv : pm_L) (st : List Value) (h : pm_H) (c sl : Nat) : pm_R := match st with
  | [.ref _] => k (pc + 3) lv [] h c sl
  | _ => none
def pm_dup (pc : Nat) (lv : pm_L) (st : List Value) (h : pm_H) (c sl : Nat) : pm_R := match st with
  | v :: r => if v.category = 1 then k (pc + 1) lv (v :: v :: r) h c sl else none
  | _ => none
def pm_dup2 (pc : Nat) (lv : pm_L) (st : List Value) (h : pm_H) (c sl : Nat) : pm_R := match st with
  | v :: w :: r => if v.category = 1 then (if w.category = 1 then k (pc + 1) lv (v :: w :: v :: w :: r) h c sl else none) else none
  | _ => none
def pm_pop (pc : Nat) (lv : pm_L) (st : List Value) (h : pm_H) (c sl : Nat) : pm_R := match st with
  | v :: r => if v.category = 1 then k (pc + 1) lv r h c sl else none
  | _ => none
def pm_lcmp (pc : Nat) (lv : pm_L) (st : List Value) (h : pm_H) (c sl : Nat) : pm_R := match st with
  | .long y :: .long x :: r => k (pc + 1) lv (.int (lg_cmp x y) :: r) h c sl
  | _ => none
def pm_i2l (pc : Nat) (lv : pm_L) (st : List Value) (h : pm_H) (c sl : Nat) : pm_R := match st with
  | .int x :: r => k (pc + 1) lv (.long x.toInt64 :: r) h c sl
  | _ => none
end Step
def pm_ret (mm : pm_M) (st : List Value) (h : pm_H) : pm_R := match st, pm_rt mm with
  | [.int v], some ty => (match pm_fit ty (.int v) with
    | true => some (some (.int v), h)
    | false => none)
  | _, _ => none
def pm_retl (mm : pm_M) (st : List Value) (h : pm_H) : pm_R := match st, pm_rt mm with
  | [.long v], some .long => some (some (.long v), h)
  | _, _ => none
def pm_reta (mm : pm_M) (st : List Value) (h : pm_H) : pm_R := match st, pm_rt mm with
  | [.ref v], some (.object _) => some (some (.ref v), h)
  | _, _ => none
def pm_retv (mm : pm_M) (st : List Value) (h : pm_H) : pm_R := match st, pm_rt mm with
  | [], none => some (none, h)
  | _, _ => none
def pm_step (xs : List Int32) (tab : Nat → Option pm_M) (big : Nat → List Value → pm_H → pm_R) (mm : pm_M) (k : pm_K) (e : pm_E) (pc : Nat) (lv : pm_L) (st : List Value) (h : pm_H) (c sl : Nat) : pm_R := match e.1 with
  | .iconst n => k (pc + 1) lv (.int (Int32.ofInt n) :: st) h c sl
  | .bipush n => k (pc + 2) lv (.int (Int8.ofInt n).toInt32 :: st) h c sl
  | .sipush n => k (pc + 3) lv (.int (Int16.ofInt n).toInt32 :: st) h c sl
  | .lconst n => k (pc + 1) lv (.long (Int64.ofNat n) :: st) h c sl
  | .ldc _ => if e.2.1 = 0 then k (pc + 2) lv (.int (Int32.ofInt e.2.2.2) :: st) h c sl else none
  | .ldc_w _ => if e.2.1 = 0 then k (pc + 3) lv (.int (Int32.ofInt e.2.2.2) :: st) h c sl else none
  | .ldc2_w _ => k (pc + 3) lv (.long (Int64.ofInt e.2.2.2) :: st) h c sl
  | .iload_n i => pm_ldi k i (pc + 1) lv st h c sl
  | .iload i => pm_ldi k i (pc + 2) lv st h c sl
  | .lload_n i => pm_ldl k i (pc + 1) lv st h c sl
  | .lload i => pm_ldl k i (pc + 2) lv st h c sl
  | .aload_n i => pm_lda k i (pc + 1) lv st h c sl
  | .aload i => pm_lda k i (pc + 2) lv st h c sl
  | .istore_n i => pm_sti k (pm_ml mm) i (pc + 1) lv st h c sl
  | .istore i => pm_sti k (pm_ml mm) i (pc + 2) lv st h c sl
  | .lstore_n i => pm_stl k (pm_ml mm) i (pc + 1) lv st h c sl
  | .lstore i => pm_stl k (pm_ml mm) i (pc + 2) lv st h c sl
  | .astore_n i => pm_sta k (pm_ml mm) i (pc + 1) lv st h c sl
  | .astore i => pm_sta k (pm_ml mm) i (pc + 2) lv st h c sl
  | .iinc i n => pm_iinc k (pm_ml mm) i n pc lv st h c sl
  | .iadd => pm_bi k (fun x y => x + y) pc lv st h c sl
  | .isub => pm_bi k (fun x y => x - y) pc lv st h c sl
  | .imul => pm_bi k (fun x y => x * y) pc lv st h c sl
  | .iand => pm_bi k (fun x y => x &&& y) pc lv st h c sl
  | .ior => pm_bi k (fun x y => x ||| y) pc lv st h c sl
  | .ixor => pm_bi k (fun x y => x ^^^ y) pc lv st h c sl
  | .ishl => pm_bi k (fun x y => x <<< (y &&& 31)) pc lv st h c sl
  | .ishr => pm_bi k (fun x y => x >>> (y &&& 31)) pc lv st h c sl
  | .iushr => pm_bi k (fun x y => (x.toUInt32 >>> (y.toUInt32 &&& Int32.toUInt32 31)).toInt32) pc lv st h c sl
  | .idiv => pm_bz k (fun x y => x / y) pc lv st h c sl
  | .irem => pm_bz k (fun x y => x - x / y * y) pc lv st h c sl
  | .ladd => pm_bl k (fun x y => x + y) pc lv st h c sl
  | .lmul => pm_bl k (fun x y => x * y) pc lv st h c sl
  | .ldiv => pm_blz k (fun x y => x / y) pc lv st h c sl
  | .lrem => pm_blz k (fun x y => x - x / y * y) pc lv st h c sl
  | .ineg => pm_u k (fun x => -x) pc lv st h c sl
  | .i2b => pm_u k (fun x => x.toInt8.toInt32) pc lv st h c sl
  | .i2s => pm_u k (fun x => x.toInt16.toInt32) pc lv st h c sl
  | .i2l => pm_i2l k pc lv st h c sl
  | .lcmp => pm_lcmp k pc lv st h c sl
  | .dup => pm_dup k pc lv st h c sl
  | .dup2 => pm_dup2 k pc lv st h c sl
  | .pop => pm_pop k pc lv st h c sl
  | .ifCond cd _ => pm_if k cd e.2.1 pc lv st h c sl
  | .if_icmp cd _ => pm_ic k cd e.2.1 pc lv st h c sl
  | .goto _ => k e.2.1 lv st h c sl
  | .tableswitch d lo hi offs => pm_tsw k d lo hi offs pc lv st h c sl
  | .getfield _ => pm_getf k e.2.1 e.2.2.1 pc lv st h c sl
  | .putfield _ => pm_putf k e.2.1 e.2.2.1 pc lv st h c sl
  | .iaload => pm_iald k xs pc lv st h c sl
  | .baload => pm_bald k pc lv st h c sl
  | .laload => pm_lald k pc lv st h c sl
  | .aaload => pm_aald k pc lv st h c sl
  | .iastore => pm_iast k pc lv st h c sl
  | .bastore => pm_bast k pc lv st h c sl
  | .lastore => pm_last k pc lv st h c sl
  | .aastore => pm_aast k pc lv st h c sl
  | .arraylength => pm_alen k xs pc lv st h c sl
  | .new _ => pm_new k mm e.2.1 pc lv st h c sl
  | .newarray at_ => pm_newa k mm at_ pc lv st h c sl
  | .anewarray _ => pm_anew k mm e.2.1 pc lv st h c sl
  | .invokevirtual _ => if e.2.2.1 = 0 then pm_inv k tab big mm e.2.1 pc lv st h c sl else none
  | .invokespecial _ => if e.2.2.1 = 1 then pm_inv k tab big mm e.2.1 pc lv st h c sl else if e.2.2.1 = 9 then pm_obj k pc lv st h c sl else none
  | .invokestatic _ => if e.2.2.1 = 8 then pm_copy k pc lv st h c sl else if e.2.2.1 = 2 ∨ e.2.2.1 = 3 then pm_ins k tab big mm e.2.1 pc lv st h c sl else none
  | .ireturn => pm_ret mm st h
  | .lreturn => pm_retl mm st h
  | .areturn => pm_reta mm st h
  | .return_ => pm_retv mm st h
  | _ => none
def pm_next (xs : List Int32) (tab : Nat → Option pm_M) (big : Nat → List Value → pm_H → pm_R) (mm : pm_M) (k : pm_K) : pm_K := fun pc lv st h c sl => match pm_at mm pc with
  | some e => pm_step xs tab big mm k e pc lv st h c sl
  | none => none
/-- n steps at most in this frame -/
noncomputable def pm_run (xs : List Int32) (tab : Nat → Option pm_M) (big : Nat → List Value → pm_H → pm_R) (mm : pm_M) (n : Nat) : pm_K := Nat.rec (motive := fun _ => pm_K) (fun _ _ _ _ _ _ => none) (fun _ k => pm_next xs tab big mm k) n
def pm_words (vs : List Value) : Nat := (vs.map Value.category).sum
/-- a call, d frames deep at most, N steps in each frame -/
noncomputable def pm_big (xs : List Int32) (tab : Nat → Option pm_M) (N : Nat) (d : Nat) : Nat → List Value → pm_H → pm_R := Nat.rec (motive := fun _ => Nat → List Value → pm_H → pm_R) (fun _ _ _ => none) (fun _ big M as h => match tab M with
  | some mm => if pm_words as ≤ pm_ml mm then (if as.length = pm_n mm then pm_run xs tab big mm N 0 (lv_args 0 as) [] h 0 0 else none) else none
  | none => none) d
end
section
/-! FROM THE PURE MACHINE TO THE MACHINE: what a pure state means, and a row for each instruction (printed in part by wip/gen/gen04.py). -/
def pm_ad (pre : Nat → Nat) (base : Nat) (i : Nat) : Nat := if i < 8 then pre i else base + (i - 8)
def pm_rv (pre : Nat → Nat) (base : Nat) : Value → Value
  | .ref i => .ref (pm_ad pre base i)
  | v => v
theorem pm_cat (pre : Nat → Nat) (base : Nat) (v : Value) : (pm_rv pre base v).category = v.category := by cases v <;> rfl
theorem pm_cats (pre : Nat → Nat) (base : Nat) (l : List Value) : ((l.map (pm_rv pre base)).map fun v => v.category).sum = (l.map Value.category).sum := by
  rw [List.map_map]
  congr 1
  exact List.map_congr_left (fun v _ => pm_cat pre base v)
def pm_lv (pre : Nat → Nat) (base : Nat) (q : Nat × Value) : Nat × Value := (q.1, pm_rv pre base q.2)
def pm_e (pre : Nat → Nat) (base : Nat) (aC : Nat → ClassId) : pm_C → va_E
  | .inl (t, l) => .inl (aC t, l.length, .inl (fun j => l.getD j 0))
  | .inr (.inl (t, l)) => .inl (aC t, l.length, .inr (.inl (fun j => l.getD j 0)))
  | .inr (.inr (.inl (t, l))) => .inl (aC t, l.length, .inr (.inr (.inr (.inr (fun j => (l.getD j none).map (pm_ad pre base))))))
  | .inr (.inr (.inr (ci, fs))) => .inr (ci, fs.map (pm_rv pre base))
def pm_P (dC : Nat → ClassId) (dI : Nat → Nat → Nat) (aC : Nat → ClassId) (pre : Nat → Nat) (base : Nat) (h : pm_H) (H : Heap) : Prop := ∀ (i : Nat) (c : pm_C), h[i]? = some c → va_at (dC, dI) kC (base + i, pm_e pre base aC c) H
def pm_ty (aC : Nat → ClassId) : List (ClassId × FieldType) := [(aC 0, .int), (aC 1, .byte), (aC 2, .boolean), (aC 3, .long), (aC 4, .object "MoodTown$Town"), (aC 5, .object "MoodTown$Sheet")]
theorem pm_P.one {dC : Nat → ClassId} {dI : Nat → Nat → Nat} {aC : Nat → ClassId} {pre : Nat → Nat} {base : Nat} {h : pm_H} {H : Heap} (hP : pm_P dC dI aC pre base h H) {i : Nat} {c : pm_C} (hc : h[i]? = some c) : va_P (dC, dI) kC [(base + i, pm_e pre base aC c)] H := by
  intro k q hk
  cases k with
  | zero => cases hk; exact hP i c hc
  | succ k => simp at hk
theorem pm_P.set {dC : Nat → ClassId} {dI : Nat → Nat → Nat} {aC : Nat → ClassId} {pre : Nat → Nat} {base : Nat} {h : pm_H} {H H1 : Heap} (hP : pm_P dC dI aC pre base h H) {i : Nat} {c0 c : pm_C} (hc : h[i]? = some c0) (he : va_at (dC, dI) kC (base + i, pm_e pre base aC c) H1) (oq : ∀ q : Nat, q ≠ base + i → H1[q]? = H[q]?) : pm_P dC dI aC pre base (h.set i c) H1 := by
  have hl := (List.getElem?_eq_some_iff.mp hc).1
  intro j d hj
  by_cases hji : j = i
  · subst hji
    rw [List.getElem?_set_self hl] at hj
    cases hj
    exact he
  · rw [List.getElem?_set_ne (Ne.symm hji)] at hj
    exact (hP j d hj).kept (oq _ (by show base + j ≠ base + i; omega))
theorem pm_P.push {dC : Nat → ClassId} {dI : Nat → Nat → Nat} {aC : Nat → ClassId} {pre : Nat → Nat} {base : Nat} {h : pm_H} {H H1 : Heap} (hP : pm_P dC dI aC pre base h H) (hz : H.size = base + h.length) {c : pm_C} (he : va_at (dC, dI) kC (H.size, pm_e pre base aC c) H1) (oq : ∀ q : Nat, q < H.size → H1[q]? = H[q]?) : pm_P dC dI aC pre base (h ++ [c]) H1 := by
  intro j d hj
  by_cases hl : j < h.length
  · rw [List.getElem?_append_left hl] at hj
    exact (hP j d hj).kept (oq _ (by show base + j < H.size; omega))
  · rw [List.getElem?_append_right (by omega)] at hj
    have hz1 : j - h.length < 1 := (List.getElem?_eq_some_iff.mp hj).1
    rw [show j - h.length = 0 by omega] at hj
    cases hj
    rw [show base + j = H.size by omega]
    exact he
theorem pm_cell_eq {h : pm_H} {a : Nat} {c : pm_C} (pre : Nat → Nat) (base : Nat) (hc : pm_cell h a = some c) : h[a - 8]? = some c ∧ pm_ad pre base a = base + (a - 8) := by
  unfold pm_cell at hc
  by_cases ha : a < 8
  · rw [if_pos ha] at hc; cases hc
  · rw [if_neg ha] at hc
    exact ⟨hc, by unfold pm_ad; rw [if_neg ha]⟩
theorem pm_ad_new (pre : Nat → Nat) (base n : Nat) : pm_ad pre base (8 + n) = base + n := by
  unfold pm_ad
  rw [if_neg (by omega)]
  omega
theorem pm_look {lv : pm_L} {i : Nat} {v : Value} (h : lv.lookup i = some v) : ∃ k : Nat, lv[k]? = some (i, v) := by
  induction lv with
  | nil => cases h
  | cons q r ih =>
    obtain ⟨j, w⟩ := q
    rw [List.lookup_cons] at h
    by_cases hj : i = j
    · subst hj
      rw [beq_self_eq_true] at h
      cases h
      exact ⟨0, rfl⟩
    · rw [beq_eq_false_iff_ne.mpr hj] at h
      obtain ⟨k, hk⟩ := ih h
      exact ⟨k + 1, hk⟩
theorem pm_lvat {ls : Array Slot} {nL : Nat} {lv : pm_L} {pre : Nat → Nat} {base i : Nat} {v : Value} (hl : lv_has ls nL (lv.map (pm_lv pre base))) (h : lv.lookup i = some v) : ls[i]? = some (.val (pm_rv pre base v)) := by
  obtain ⟨k, hk⟩ := pm_look h
  exact lv_at hl k (by rw [List.getElem?_map, hk]; rfl)
theorem pm_s1_eq (pre : Nat → Nat) (base : Nat) (lv : pm_L) (i : Nat) (v : Value) : (i, pm_rv pre base v) :: (lv.map (pm_lv pre base)).filter (fun q => !(q.1 == i) && !(q.1 + 1 == i && q.2.category == 2)) = (pm_s1 lv i v).map (pm_lv pre base) := by
  unfold pm_s1
  rw [List.filter_map, List.map_cons]
  congr 2
  exact List.filter_congr (fun q _ => by show (!(q.1 == i) && !(q.1 + 1 == i && (pm_rv pre base q.2).category == 2)) = _; rw [pm_cat])
theorem pm_s2_eq (pre : Nat → Nat) (base : Nat) (lv : pm_L) (i : Nat) (v : Value) : (i, pm_rv pre base v) :: (lv.map (pm_lv pre base)).filter (fun q => !(q.1 == i) && (!(q.1 == i + 1) && !(q.1 + 1 == i && q.2.category == 2))) = (pm_s2 lv i v).map (pm_lv pre base) := by
  unfold pm_s2
  rw [List.filter_map, List.map_cons]
  congr 2
  exact List.filter_congr (fun q _ => by show (!(q.1 == i) && (!(q.1 == i + 1) && !(q.1 + 1 == i && (pm_rv pre base q.2).category == 2))) = _; rw [pm_cat])
theorem pm_fit_ok {pre : Nat → Nat} {base : Nat} {ty : FieldType} {v : Value} (h : pm_fit ty v = true) : narrow ty (pm_rv pre base v) = pm_rv pre base v ∧ fits ty (pm_rv pre base v) = true := by
  unfold pm_fit at h
  split at h
  · exact ⟨rfl, rfl⟩
  · exact ⟨rfl, rfl⟩
  · rename_i v
    rw [Bool.or_eq_true, beq_iff_eq, beq_iff_eq] at h
    rcases h with rfl | rfl
    · exact ⟨show narrow .boolean (.int 0) = .int 0 by decide, show fits .boolean (.int 0) = true by decide⟩
    · exact ⟨show narrow .boolean (.int 1) = .int 1 by decide, show fits .boolean (.int 1) = true by decide⟩
  · exact ⟨rfl, rfl⟩
  · exact ⟨rfl, rfl⟩
  · cases h
def pm_nest : List (String × Nat × MethodName) := [("MoodTown$Walk", 111, ⟨"MoodTown", "flipOf", "(I)I"⟩), ("MoodTown$Search", 62, ⟨"MoodTown", "rowsOf", "(I)I"⟩), ("MoodTown$Town", 106, ⟨"MoodTown", "digitOf", "(III)I"⟩), ("MoodTown$Search", 108, ⟨"MoodTown", "digitOf", "(III)I"⟩), ("MoodTown$Search", 135, ⟨"MoodTown", "flipOf", "(I)I"⟩)]
def pm_N (U : State) : Prop := va_AO "MoodTown$Town" U ∧ va_AO "MoodTown$Sheet" U ∧ ∀ q ∈ pm_nest, va_Nw (.methodLinkNest q.1 q.2.1 q.2.2 "MoodTown") U
def pm_X (p : Program) (R : Room) (s : State) (m : MethodId) (args : Array Value) (meth : Method) (c0 : Code) (dC : Nat → ClassId) (dI : Nat → Nat → Nat) (aC : Nat → ClassId) (pre : Nat → Nat) (base : Nat) (xs : List Int32) (mm : pm_M) : Prop :=
  p.tables.exec = Jvm.exec ∧ c0.code = pm_b mm ∧ c0.maxLocals = pm_ml mm ∧ s.vm.findClass (kN (pm_o mm)) = some m.cls ∧ (∀ w ∈ lw_gt, w.before args s = true) ∧ ((pm_y mm).name = "<init>" → meth.name = "<init>") ∧ va_K (dC, dI) kC (pm_ty aC) s ∧ va_X (pre 0) xs.length (fun j => xs.getD j 0) s s.heap ∧ pre 0 < base ∧ base ≤ s.heap.size ∧ pm_N s ∧ R = pm_rm mm
/-- the machine comes from this pure state to an end with Q -/
def pm_W (p : Program) (l : Launch) (e : Env) (R : Room) (s : State) (m : MethodId) (args : Array Value) (below : List Frame) (meth : Method) (c0 : Code) (Q : State → Prop) (dC : Nat → ClassId) (dI : Nat → Nat → Nat) (aC : Nat → ClassId) (pre : Nat → Nat) (base : Nat) (mm : pm_M) (pc : Nat) (lv : pm_L) (st : List Value) (h : pm_H) (c sl : Nat) : Prop :=
  ∀ (H : Heap) (locs : List Loc) (ls : Array Slot), c ≤ pm_c mm → sl ≤ pm_s mm → lv_has ls (pm_ml mm) (lv.map (pm_lv pre base)) → pm_P dC dI aC pre base h H → H.size = base + h.length → va_S (fun q => base ≤ q) s.heap H locs → W p l e R s m args below meth c0 H locs c sl Q (F0 m pc ls (st.map (pm_rv pre base)))
def pm_IH (p : Program) (l : Launch) (e : Env) (R : Room) (s : State) (m : MethodId) (args : Array Value) (below : List Frame) (meth : Method) (c0 : Code) (Q : State → Prop) (dC : Nat → ClassId) (dI : Nat → Nat → Nat) (aC : Nat → ClassId) (pre : Nat → Nat) (base : Nat) (mm : pm_M) (k : pm_K) (r : Option Value × pm_H) : Prop :=
  ∀ (pc : Nat) (lv : pm_L) (st : List Value) (h : pm_H) (c sl : Nat), k pc lv st h c sl = some r → pm_W p l e R s m args below meth c0 Q dC dI aC pre base mm pc lv st h c sl
section Rows
variable {p : Program} {l : Launch} {e : Env} {R : Room} {s : State} {m : MethodId} {args : Array Value} {below : List Frame} {meth : Method} {c0 : Code} {Q : State → Prop} {dC : Nat → ClassId} {dI : Nat → Nat → Nat} {aC : Nat → ClassId} {pre : Nat → Nat} {base : Nat} {xs : List Int32} {mm : pm_M} {k : pm_K} {r : Option Value × pm_H} {pc : Nat} {lv : pm_L} {st : List Value} {h : pm_H} {c sl : Nat}
theorem ps_iconst (X : pm_X p R s m args meth c0 dC dI aC pre base xs mm) {n : Int} (hd : decode (pm_b mm) pc = .ok (.iconst n, 1)) (ih : pm_IH p l e R s m args below meth c0 Q dC dI aC pre base mm k r) (hk : k (pc + 1) lv (.int (Int32.ofInt n) :: st) h c sl = some r) : pm_W p l e R s m args below meth c0 Q dC dI aC pre base mm pc lv st h c sl := by
  intro H locs ls hc hs hl hP hz hS
  exact lv_iconst X.1 X.2.1 hd rfl (ih _ _ _ _ _ _ hk H locs ls hc hs hl hP hz hS)
theorem ps_bipush (X : pm_X p R s m args meth c0 dC dI aC pre base xs mm) {n : Int} (hd : decode (pm_b mm) pc = .ok (.bipush n, 2)) (ih : pm_IH p l e R s m args below meth c0 Q dC dI aC pre base mm k r) (hk : k (pc + 2) lv (.int (Int8.ofInt n).toInt32 :: st) h c sl = some r) : pm_W p l e R s m args below meth c0 Q dC dI aC pre base mm pc lv st h c sl := by
  intro H locs ls hc hs hl hP hz hS
  exact lv_bipush X.1 X.2.1 hd rfl (ih _ _ _ _ _ _ hk H locs ls hc hs hl hP hz hS)
theorem ps_sipush (X : pm_X p R s m args meth c0 dC dI aC pre base xs mm) {n : Int} (hd : decode (pm_b mm) pc = .ok (.sipush n, 3)) (ih : pm_IH p l e R s m args below meth c0 Q dC dI aC pre base mm k r) (hk : k (pc + 3) lv (.int (Int16.ofInt n).toInt32 :: st) h c sl = some r) : pm_W p l e R s m args below meth c0 Q dC dI aC pre base mm pc lv st h c sl := by
  intro H locs ls hc hs hl hP hz hS
  exact lv_sipush X.1 X.2.1 hd rfl (ih _ _ _ _ _ _ hk H locs ls hc hs hl hP hz hS)
theorem ps_lconst (X : pm_X p R s m args meth c0 dC dI aC pre base xs mm) {n : Fin 2} (hd : decode (pm_b mm) pc = .ok (.lconst n, 1)) (ih : pm_IH p l e R s m args below meth c0 Q dC dI aC pre base mm k r) (hk : k (pc + 1) lv (.long (Int64.ofNat n) :: st) h c sl = some r) : pm_W p l e R s m args below meth c0 Q dC dI aC pre base mm pc lv st h c sl := by
  intro H locs ls hc hs hl hP hz hS
  exact lv_lconst X.1 X.2.1 hd rfl (ih _ _ _ _ _ _ hk H locs ls hc hs hl hP hz hS)
theorem ps_ldc (X : pm_X p R s m args meth c0 dC dI aC pre base xs mm) {ix : Nat} {v : Int32} (hw : Cond.constant (kN (pm_o mm)) ix v ∈ lw_gt) (hd : decode (pm_b mm) pc = .ok (.ldc ix, 2)) (ih : pm_IH p l e R s m args below meth c0 Q dC dI aC pre base mm k r) (hk : k (pc + 2) lv (.int v :: st) h c sl = some r) : pm_W p l e R s m args below meth c0 Q dC dI aC pre base mm pc lv st h c sl := by
  intro H locs ls hc hs hl hP hz hS
  exact lv_ldc X.1 X.2.1 X.2.2.2.1 (X.2.2.2.2.1 _ hw) hd (ih _ _ _ _ _ _ hk H locs ls hc hs hl hP hz hS)
theorem ps_ldc_w (X : pm_X p R s m args meth c0 dC dI aC pre base xs mm) {ix : Nat} {v : Int32} (hw : Cond.constant (kN (pm_o mm)) ix v ∈ lw_gt) (hd : decode (pm_b mm) pc = .ok (.ldc_w ix, 3)) (ih : pm_IH p l e R s m args below meth c0 Q dC dI aC pre base mm k r) (hk : k (pc + 3) lv (.int v :: st) h c sl = some r) : pm_W p l e R s m args below meth c0 Q dC dI aC pre base mm pc lv st h c sl := by
  intro H locs ls hc hs hl hP hz hS
  exact lv_ldcw X.1 X.2.1 X.2.2.2.1 (X.2.2.2.2.1 _ hw) hd (ih _ _ _ _ _ _ hk H locs ls hc hs hl hP hz hS)
theorem ps_ldc2 (X : pm_X p R s m args meth c0 dC dI aC pre base xs mm) {ix : Nat} {v : Int64} (hw : Cond.constantLong (kN (pm_o mm)) ix v ∈ lw_gt) (hd : decode (pm_b mm) pc = .ok (.ldc2_w ix, 3)) (ih : pm_IH p l e R s m args below meth c0 Q dC dI aC pre base mm k r) (hk : k (pc + 3) lv (.long v :: st) h c sl = some r) : pm_W p l e R s m args below meth c0 Q dC dI aC pre base mm pc lv st h c sl := by
  intro H locs ls hc hs hl hP hz hS
  exact lv_ldc2 X.1 X.2.1 X.2.2.2.1 (X.2.2.2.2.1 _ hw) hd (ih _ _ _ _ _ _ hk H locs ls hc hs hl hP hz hS)
theorem ps_iload_n (X : pm_X p R s m args meth c0 dC dI aC pre base xs mm) {i : Fin 4} (hd : decode (pm_b mm) pc = .ok (.iload_n i, 1)) (ih : pm_IH p l e R s m args below meth c0 Q dC dI aC pre base mm k r) (hk : pm_ldi k i (pc + 1) lv st h c sl = some r) : pm_W p l e R s m args below meth c0 Q dC dI aC pre base mm pc lv st h c sl := by
  unfold pm_ldi at hk
  split at hk
  · rename_i x hx
    intro H locs ls hc hs hl hP hz hS
    exact lv_iload_n X.1 X.2.1 hd rfl (pm_lvat hl hx) (ih _ _ _ _ _ _ hk H locs ls hc hs hl hP hz hS)
  · cases hk
theorem ps_iload (X : pm_X p R s m args meth c0 dC dI aC pre base xs mm) {i : Nat} (hd : decode (pm_b mm) pc = .ok (.iload i, 2)) (ih : pm_IH p l e R s m args below meth c0 Q dC dI aC pre base mm k r) (hk : pm_ldi k i (pc + 2) lv st h c sl = some r) : pm_W p l e R s m args below meth c0 Q dC dI aC pre base mm pc lv st h c sl := by
  unfold pm_ldi at hk
  split at hk
  · rename_i x hx
    intro H locs ls hc hs hl hP hz hS
    exact lv_iload X.1 X.2.1 hd (pm_lvat hl hx) (ih _ _ _ _ _ _ hk H locs ls hc hs hl hP hz hS)
  · cases hk
theorem ps_lload_n (X : pm_X p R s m args meth c0 dC dI aC pre base xs mm) {i : Fin 4} (hd : decode (pm_b mm) pc = .ok (.lload_n i, 1)) (ih : pm_IH p l e R s m args below meth c0 Q dC dI aC pre base mm k r) (hk : pm_ldl k i (pc + 1) lv st h c sl = some r) : pm_W p l e R s m args below meth c0 Q dC dI aC pre base mm pc lv st h c sl := by
  unfold pm_ldl at hk
  split at hk
  · rename_i x hx
    intro H locs ls hc hs hl hP hz hS
    exact lv_lload_n X.1 X.2.1 hd rfl (pm_lvat hl hx) (ih _ _ _ _ _ _ hk H locs ls hc hs hl hP hz hS)
  · cases hk
theorem ps_lload (X : pm_X p R s m args meth c0 dC dI aC pre base xs mm) {i : Nat} (hd : decode (pm_b mm) pc = .ok (.lload i, 2)) (ih : pm_IH p l e R s m args below meth c0 Q dC dI aC pre base mm k r) (hk : pm_ldl k i (pc + 2) lv st h c sl = some r) : pm_W p l e R s m args below meth c0 Q dC dI aC pre base mm pc lv st h c sl := by
  unfold pm_ldl at hk
  split at hk
  · rename_i x hx
    intro H locs ls hc hs hl hP hz hS
    exact lv_lload X.1 X.2.1 hd (pm_lvat hl hx) (ih _ _ _ _ _ _ hk H locs ls hc hs hl hP hz hS)
  · cases hk
theorem ps_aload_n (X : pm_X p R s m args meth c0 dC dI aC pre base xs mm) {i : Fin 4} (hd : decode (pm_b mm) pc = .ok (.aload_n i, 1)) (ih : pm_IH p l e R s m args below meth c0 Q dC dI aC pre base mm k r) (hk : pm_lda k i (pc + 1) lv st h c sl = some r) : pm_W p l e R s m args below meth c0 Q dC dI aC pre base mm pc lv st h c sl := by
  unfold pm_lda at hk
  split at hk
  · rename_i x hx
    intro H locs ls hc hs hl hP hz hS
    exact lv_aload_n X.1 X.2.1 hd rfl (pm_lvat hl hx) (ih _ _ _ _ _ _ hk H locs ls hc hs hl hP hz hS)
  · cases hk
theorem ps_aload (X : pm_X p R s m args meth c0 dC dI aC pre base xs mm) {i : Nat} (hd : decode (pm_b mm) pc = .ok (.aload i, 2)) (ih : pm_IH p l e R s m args below meth c0 Q dC dI aC pre base mm k r) (hk : pm_lda k i (pc + 2) lv st h c sl = some r) : pm_W p l e R s m args below meth c0 Q dC dI aC pre base mm pc lv st h c sl := by
  unfold pm_lda at hk
  split at hk
  · rename_i x hx
    intro H locs ls hc hs hl hP hz hS
    exact lv_aload X.1 X.2.1 hd (pm_lvat hl hx) (ih _ _ _ _ _ _ hk H locs ls hc hs hl hP hz hS)
  · cases hk
theorem ps_istore_n (X : pm_X p R s m args meth c0 dC dI aC pre base xs mm) {i : Fin 4} (hd : decode (pm_b mm) pc = .ok (.istore_n i, 1)) (ih : pm_IH p l e R s m args below meth c0 Q dC dI aC pre base mm k r) (hk : pm_sti k (pm_ml mm) i (pc + 1) lv st h c sl = some r) : pm_W p l e R s m args below meth c0 Q dC dI aC pre base mm pc lv st h c sl := by
  unfold pm_sti at hk
  split at hk
  · rename_i x rr
    split at hk
    · rename_i hi
      intro H locs ls hc hs hl hP hz hS
      exact lv_istore_n X.1 X.2.1 hd rfl hl hi (pm_s1_eq pre base lv _ (.int x)) (fun ls hl => ih _ _ _ _ _ _ hk H locs ls hc hs hl hP hz hS)
    · cases hk
  · cases hk
theorem ps_istore (X : pm_X p R s m args meth c0 dC dI aC pre base xs mm) {i : Nat} (hd : decode (pm_b mm) pc = .ok (.istore i, 2)) (ih : pm_IH p l e R s m args below meth c0 Q dC dI aC pre base mm k r) (hk : pm_sti k (pm_ml mm) i (pc + 2) lv st h c sl = some r) : pm_W p l e R s m args below meth c0 Q dC dI aC pre base mm pc lv st h c sl := by
  unfold pm_sti at hk
  split at hk
  · rename_i x rr
    split at hk
    · rename_i hi
      intro H locs ls hc hs hl hP hz hS
      exact lv_istore X.1 X.2.1 hd hl hi (pm_s1_eq pre base lv _ (.int x)) (fun ls hl => ih _ _ _ _ _ _ hk H locs ls hc hs hl hP hz hS)
    · cases hk
  · cases hk
theorem ps_lstore_n (X : pm_X p R s m args meth c0 dC dI aC pre base xs mm) {i : Fin 4} (hd : decode (pm_b mm) pc = .ok (.lstore_n i, 1)) (ih : pm_IH p l e R s m args below meth c0 Q dC dI aC pre base mm k r) (hk : pm_stl k (pm_ml mm) i (pc + 1) lv st h c sl = some r) : pm_W p l e R s m args below meth c0 Q dC dI aC pre base mm pc lv st h c sl := by
  unfold pm_stl at hk
  split at hk
  · rename_i x rr
    split at hk
    · rename_i hi
      intro H locs ls hc hs hl hP hz hS
      exact lv_lstore_n X.1 X.2.1 hd rfl hl hi (pm_s2_eq pre base lv _ (.long x)) (fun ls hl => ih _ _ _ _ _ _ hk H locs ls hc hs hl hP hz hS)
    · cases hk
  · cases hk
theorem ps_lstore (X : pm_X p R s m args meth c0 dC dI aC pre base xs mm) {i : Nat} (hd : decode (pm_b mm) pc = .ok (.lstore i, 2)) (ih : pm_IH p l e R s m args below meth c0 Q dC dI aC pre base mm k r) (hk : pm_stl k (pm_ml mm) i (pc + 2) lv st h c sl = some r) : pm_W p l e R s m args below meth c0 Q dC dI aC pre base mm pc lv st h c sl := by
  unfold pm_stl at hk
  split at hk
  · rename_i x rr
    split at hk
    · rename_i hi
      intro H locs ls hc hs hl hP hz hS
      exact lv_lstore X.1 X.2.1 hd hl hi (pm_s2_eq pre base lv _ (.long x)) (fun ls hl => ih _ _ _ _ _ _ hk H locs ls hc hs hl hP hz hS)
    · cases hk
  · cases hk
theorem ps_astore_n (X : pm_X p R s m args meth c0 dC dI aC pre base xs mm) {i : Fin 4} (hd : decode (pm_b mm) pc = .ok (.astore_n i, 1)) (ih : pm_IH p l e R s m args below meth c0 Q dC dI aC pre base mm k r) (hk : pm_sta k (pm_ml mm) i (pc + 1) lv st h c sl = some r) : pm_W p l e R s m args below meth c0 Q dC dI aC pre base mm pc lv st h c sl := by
  unfold pm_sta at hk
  split at hk
  · rename_i x rr
    split at hk
    · rename_i hi
      intro H locs ls hc hs hl hP hz hS
      exact lv_astore_n X.1 X.2.1 hd rfl hl hi (pm_s1_eq pre base lv _ (.ref x)) (fun ls hl => ih _ _ _ _ _ _ hk H locs ls hc hs hl hP hz hS)
    · cases hk
  · cases hk
theorem ps_astore (X : pm_X p R s m args meth c0 dC dI aC pre base xs mm) {i : Nat} (hd : decode (pm_b mm) pc = .ok (.astore i, 2)) (ih : pm_IH p l e R s m args below meth c0 Q dC dI aC pre base mm k r) (hk : pm_sta k (pm_ml mm) i (pc + 2) lv st h c sl = some r) : pm_W p l e R s m args below meth c0 Q dC dI aC pre base mm pc lv st h c sl := by
  unfold pm_sta at hk
  split at hk
  · rename_i x rr
    split at hk
    · rename_i hi
      intro H locs ls hc hs hl hP hz hS
      exact lv_astore X.1 X.2.1 hd hl hi (pm_s1_eq pre base lv _ (.ref x)) (fun ls hl => ih _ _ _ _ _ _ hk H locs ls hc hs hl hP hz hS)
    · cases hk
  · cases hk
theorem ps_iinc (X : pm_X p R s m args meth c0 dC dI aC pre base xs mm) {i : Nat} {n : Int} (hd : decode (pm_b mm) pc = .ok (.iinc i n, 3)) (ih : pm_IH p l e R s m args below meth c0 Q dC dI aC pre base mm k r) (hk : pm_iinc k (pm_ml mm) i n pc lv st h c sl = some r) : pm_W p l e R s m args below meth c0 Q dC dI aC pre base mm pc lv st h c sl := by
  unfold pm_iinc at hk
  split at hk
  · rename_i x hx
    split at hk
    · rename_i hi
      intro H locs ls hc hs hl hP hz hS
      obtain ⟨q, hq⟩ := pm_look hx
      exact lv_iinc X.1 X.2.1 hd hl (k := q) (x := x) (by rw [List.getElem?_map, hq]; rfl) rfl hi (pm_s1_eq pre base lv i (.int (x + Int32.ofInt n))) (fun ls hl => ih _ _ _ _ _ _ hk H locs ls hc hs hl hP hz hS)
    · cases hk
  · cases hk
theorem ps_iadd (X : pm_X p R s m args meth c0 dC dI aC pre base xs mm)  (hd : decode (pm_b mm) pc = .ok (.iadd, 1)) (ih : pm_IH p l e R s m args below meth c0 Q dC dI aC pre base mm k r) (hk : pm_bi k (fun x y => x + y) pc lv st h c sl = some r) : pm_W p l e R s m args below meth c0 Q dC dI aC pre base mm pc lv st h c sl := by
  unfold pm_bi at hk
  split at hk
  · intro H locs ls hc hs hl hP hz hS
    exact lv_iadd X.1 X.2.1 hd (ih _ _ _ _ _ _ hk H locs ls hc hs hl hP hz hS)
  · cases hk
theorem ps_isub (X : pm_X p R s m args meth c0 dC dI aC pre base xs mm)  (hd : decode (pm_b mm) pc = .ok (.isub, 1)) (ih : pm_IH p l e R s m args below meth c0 Q dC dI aC pre base mm k r) (hk : pm_bi k (fun x y => x - y) pc lv st h c sl = some r) : pm_W p l e R s m args below meth c0 Q dC dI aC pre base mm pc lv st h c sl := by
  unfold pm_bi at hk
  split at hk
  · intro H locs ls hc hs hl hP hz hS
    exact lv_isub X.1 X.2.1 hd (ih _ _ _ _ _ _ hk H locs ls hc hs hl hP hz hS)
  · cases hk
theorem ps_imul (X : pm_X p R s m args meth c0 dC dI aC pre base xs mm)  (hd : decode (pm_b mm) pc = .ok (.imul, 1)) (ih : pm_IH p l e R s m args below meth c0 Q dC dI aC pre base mm k r) (hk : pm_bi k (fun x y => x * y) pc lv st h c sl = some r) : pm_W p l e R s m args below meth c0 Q dC dI aC pre base mm pc lv st h c sl := by
  unfold pm_bi at hk
  split at hk
  · intro H locs ls hc hs hl hP hz hS
    exact lv_imul X.1 X.2.1 hd (ih _ _ _ _ _ _ hk H locs ls hc hs hl hP hz hS)
  · cases hk
theorem ps_iand (X : pm_X p R s m args meth c0 dC dI aC pre base xs mm)  (hd : decode (pm_b mm) pc = .ok (.iand, 1)) (ih : pm_IH p l e R s m args below meth c0 Q dC dI aC pre base mm k r) (hk : pm_bi k (fun x y => x &&& y) pc lv st h c sl = some r) : pm_W p l e R s m args below meth c0 Q dC dI aC pre base mm pc lv st h c sl := by
  unfold pm_bi at hk
  split at hk
  · intro H locs ls hc hs hl hP hz hS
    exact lv_iand X.1 X.2.1 hd (ih _ _ _ _ _ _ hk H locs ls hc hs hl hP hz hS)
  · cases hk
theorem ps_ior (X : pm_X p R s m args meth c0 dC dI aC pre base xs mm)  (hd : decode (pm_b mm) pc = .ok (.ior, 1)) (ih : pm_IH p l e R s m args below meth c0 Q dC dI aC pre base mm k r) (hk : pm_bi k (fun x y => x ||| y) pc lv st h c sl = some r) : pm_W p l e R s m args below meth c0 Q dC dI aC pre base mm pc lv st h c sl := by
  unfold pm_bi at hk
  split at hk
  · intro H locs ls hc hs hl hP hz hS
    exact lv_ior X.1 X.2.1 hd (ih _ _ _ _ _ _ hk H locs ls hc hs hl hP hz hS)
  · cases hk
theorem ps_ixor (X : pm_X p R s m args meth c0 dC dI aC pre base xs mm)  (hd : decode (pm_b mm) pc = .ok (.ixor, 1)) (ih : pm_IH p l e R s m args below meth c0 Q dC dI aC pre base mm k r) (hk : pm_bi k (fun x y => x ^^^ y) pc lv st h c sl = some r) : pm_W p l e R s m args below meth c0 Q dC dI aC pre base mm pc lv st h c sl := by
  unfold pm_bi at hk
  split at hk
  · intro H locs ls hc hs hl hP hz hS
    exact lv_ixor X.1 X.2.1 hd (ih _ _ _ _ _ _ hk H locs ls hc hs hl hP hz hS)
  · cases hk
theorem ps_ishl (X : pm_X p R s m args meth c0 dC dI aC pre base xs mm)  (hd : decode (pm_b mm) pc = .ok (.ishl, 1)) (ih : pm_IH p l e R s m args below meth c0 Q dC dI aC pre base mm k r) (hk : pm_bi k (fun x y => x <<< (y &&& 31)) pc lv st h c sl = some r) : pm_W p l e R s m args below meth c0 Q dC dI aC pre base mm pc lv st h c sl := by
  unfold pm_bi at hk
  split at hk
  · intro H locs ls hc hs hl hP hz hS
    exact lv_ishl X.1 X.2.1 hd (ih _ _ _ _ _ _ hk H locs ls hc hs hl hP hz hS)
  · cases hk
theorem ps_ishr (X : pm_X p R s m args meth c0 dC dI aC pre base xs mm)  (hd : decode (pm_b mm) pc = .ok (.ishr, 1)) (ih : pm_IH p l e R s m args below meth c0 Q dC dI aC pre base mm k r) (hk : pm_bi k (fun x y => x >>> (y &&& 31)) pc lv st h c sl = some r) : pm_W p l e R s m args below meth c0 Q dC dI aC pre base mm pc lv st h c sl := by
  unfold pm_bi at hk
  split at hk
  · intro H locs ls hc hs hl hP hz hS
    exact lv_ishr X.1 X.2.1 hd (ih _ _ _ _ _ _ hk H locs ls hc hs hl hP hz hS)
  · cases hk
theorem ps_iushr (X : pm_X p R s m args meth c0 dC dI aC pre base xs mm)  (hd : decode (pm_b mm) pc = .ok (.iushr, 1)) (ih : pm_IH p l e R s m args below meth c0 Q dC dI aC pre base mm k r) (hk : pm_bi k (fun x y => (x.toUInt32 >>> (y.toUInt32 &&& Int32.toUInt32 31)).toInt32) pc lv st h c sl = some r) : pm_W p l e R s m args below meth c0 Q dC dI aC pre base mm pc lv st h c sl := by
  unfold pm_bi at hk
  split at hk
  · intro H locs ls hc hs hl hP hz hS
    exact lv_iushr X.1 X.2.1 hd rfl (ih _ _ _ _ _ _ hk H locs ls hc hs hl hP hz hS)
  · cases hk
theorem ps_idiv (X : pm_X p R s m args meth c0 dC dI aC pre base xs mm)  (hd : decode (pm_b mm) pc = .ok (.idiv, 1)) (ih : pm_IH p l e R s m args below meth c0 Q dC dI aC pre base mm k r) (hk : pm_bz k (fun x y => x / y) pc lv st h c sl = some r) : pm_W p l e R s m args below meth c0 Q dC dI aC pre base mm pc lv st h c sl := by
  unfold pm_bz at hk
  split at hk
  · split at hk
    · cases hk
    · rename_i hne
      intro H locs ls hc hs hl hP hz hS
      exact lv_idiv X.1 X.2.1 hd hne (ih _ _ _ _ _ _ hk H locs ls hc hs hl hP hz hS)
  · cases hk
theorem ps_irem (X : pm_X p R s m args meth c0 dC dI aC pre base xs mm)  (hd : decode (pm_b mm) pc = .ok (.irem, 1)) (ih : pm_IH p l e R s m args below meth c0 Q dC dI aC pre base mm k r) (hk : pm_bz k (fun x y => x - x / y * y) pc lv st h c sl = some r) : pm_W p l e R s m args below meth c0 Q dC dI aC pre base mm pc lv st h c sl := by
  unfold pm_bz at hk
  split at hk
  · split at hk
    · cases hk
    · rename_i hne
      intro H locs ls hc hs hl hP hz hS
      exact lv_irem X.1 X.2.1 hd hne (ih _ _ _ _ _ _ hk H locs ls hc hs hl hP hz hS)
  · cases hk
theorem ps_ladd (X : pm_X p R s m args meth c0 dC dI aC pre base xs mm)  (hd : decode (pm_b mm) pc = .ok (.ladd, 1)) (ih : pm_IH p l e R s m args below meth c0 Q dC dI aC pre base mm k r) (hk : pm_bl k (fun x y => x + y) pc lv st h c sl = some r) : pm_W p l e R s m args below meth c0 Q dC dI aC pre base mm pc lv st h c sl := by
  unfold pm_bl at hk
  split at hk
  · intro H locs ls hc hs hl hP hz hS
    exact lv_ladd X.1 X.2.1 hd (ih _ _ _ _ _ _ hk H locs ls hc hs hl hP hz hS)
  · cases hk
theorem ps_lmul (X : pm_X p R s m args meth c0 dC dI aC pre base xs mm)  (hd : decode (pm_b mm) pc = .ok (.lmul, 1)) (ih : pm_IH p l e R s m args below meth c0 Q dC dI aC pre base mm k r) (hk : pm_bl k (fun x y => x * y) pc lv st h c sl = some r) : pm_W p l e R s m args below meth c0 Q dC dI aC pre base mm pc lv st h c sl := by
  unfold pm_bl at hk
  split at hk
  · intro H locs ls hc hs hl hP hz hS
    exact lv_lmul X.1 X.2.1 hd (ih _ _ _ _ _ _ hk H locs ls hc hs hl hP hz hS)
  · cases hk
theorem ps_ldiv (X : pm_X p R s m args meth c0 dC dI aC pre base xs mm)  (hd : decode (pm_b mm) pc = .ok (.ldiv, 1)) (ih : pm_IH p l e R s m args below meth c0 Q dC dI aC pre base mm k r) (hk : pm_blz k (fun x y => x / y) pc lv st h c sl = some r) : pm_W p l e R s m args below meth c0 Q dC dI aC pre base mm pc lv st h c sl := by
  unfold pm_blz at hk
  split at hk
  · split at hk
    · cases hk
    · rename_i hne
      intro H locs ls hc hs hl hP hz hS
      exact lv_ldiv X.1 X.2.1 hd hne (ih _ _ _ _ _ _ hk H locs ls hc hs hl hP hz hS)
  · cases hk
theorem ps_lrem (X : pm_X p R s m args meth c0 dC dI aC pre base xs mm)  (hd : decode (pm_b mm) pc = .ok (.lrem, 1)) (ih : pm_IH p l e R s m args below meth c0 Q dC dI aC pre base mm k r) (hk : pm_blz k (fun x y => x - x / y * y) pc lv st h c sl = some r) : pm_W p l e R s m args below meth c0 Q dC dI aC pre base mm pc lv st h c sl := by
  unfold pm_blz at hk
  split at hk
  · split at hk
    · cases hk
    · rename_i hne
      intro H locs ls hc hs hl hP hz hS
      exact lv_lrem X.1 X.2.1 hd hne (ih _ _ _ _ _ _ hk H locs ls hc hs hl hP hz hS)
  · cases hk
theorem ps_ineg (X : pm_X p R s m args meth c0 dC dI aC pre base xs mm)  (hd : decode (pm_b mm) pc = .ok (.ineg, 1)) (ih : pm_IH p l e R s m args below meth c0 Q dC dI aC pre base mm k r) (hk : pm_u k (fun x => -x) pc lv st h c sl = some r) : pm_W p l e R s m args below meth c0 Q dC dI aC pre base mm pc lv st h c sl := by
  unfold pm_u at hk
  split at hk
  · intro H locs ls hc hs hl hP hz hS
    exact lv_ineg X.1 X.2.1 hd (ih _ _ _ _ _ _ hk H locs ls hc hs hl hP hz hS)
  · cases hk
theorem ps_i2b (X : pm_X p R s m args meth c0 dC dI aC pre base xs mm)  (hd : decode (pm_b mm) pc = .ok (.i2b, 1)) (ih : pm_IH p l e R s m args below meth c0 Q dC dI aC pre base mm k r) (hk : pm_u k (fun x => x.toInt8.toInt32) pc lv st h c sl = some r) : pm_W p l e R s m args below meth c0 Q dC dI aC pre base mm pc lv st h c sl := by
  unfold pm_u at hk
  split at hk
  · intro H locs ls hc hs hl hP hz hS
    exact lv_i2b X.1 X.2.1 hd rfl (ih _ _ _ _ _ _ hk H locs ls hc hs hl hP hz hS)
  · cases hk
theorem ps_i2s (X : pm_X p R s m args meth c0 dC dI aC pre base xs mm)  (hd : decode (pm_b mm) pc = .ok (.i2s, 1)) (ih : pm_IH p l e R s m args below meth c0 Q dC dI aC pre base mm k r) (hk : pm_u k (fun x => x.toInt16.toInt32) pc lv st h c sl = some r) : pm_W p l e R s m args below meth c0 Q dC dI aC pre base mm pc lv st h c sl := by
  unfold pm_u at hk
  split at hk
  · intro H locs ls hc hs hl hP hz hS
    exact lv_i2s X.1 X.2.1 hd rfl (ih _ _ _ _ _ _ hk H locs ls hc hs hl hP hz hS)
  · cases hk
theorem ps_i2l (X : pm_X p R s m args meth c0 dC dI aC pre base xs mm)  (hd : decode (pm_b mm) pc = .ok (.i2l, 1)) (ih : pm_IH p l e R s m args below meth c0 Q dC dI aC pre base mm k r) (hk : pm_i2l k pc lv st h c sl = some r) : pm_W p l e R s m args below meth c0 Q dC dI aC pre base mm pc lv st h c sl := by
  unfold pm_i2l at hk
  split at hk
  · intro H locs ls hc hs hl hP hz hS
    exact lv_i2l X.1 X.2.1 hd rfl (ih _ _ _ _ _ _ hk H locs ls hc hs hl hP hz hS)
  · cases hk
theorem ps_lcmp (X : pm_X p R s m args meth c0 dC dI aC pre base xs mm)  (hd : decode (pm_b mm) pc = .ok (.lcmp, 1)) (ih : pm_IH p l e R s m args below meth c0 Q dC dI aC pre base mm k r) (hk : pm_lcmp k pc lv st h c sl = some r) : pm_W p l e R s m args below meth c0 Q dC dI aC pre base mm pc lv st h c sl := by
  unfold pm_lcmp at hk
  split at hk
  · intro H locs ls hc hs hl hP hz hS
    exact W.lcmp X.1 X.2.1 hd (ih _ _ _ _ _ _ hk H locs ls hc hs hl hP hz hS)
  · cases hk
theorem ps_dup (X : pm_X p R s m args meth c0 dC dI aC pre base xs mm)  (hd : decode (pm_b mm) pc = .ok (.dup, 1)) (ih : pm_IH p l e R s m args below meth c0 Q dC dI aC pre base mm k r) (hk : pm_dup k pc lv st h c sl = some r) : pm_W p l e R s m args below meth c0 Q dC dI aC pre base mm pc lv st h c sl := by
  unfold pm_dup at hk
  split at hk
  · split at hk
    · rename_i hv
      intro H locs ls hc hs hl hP hz hS
      exact lv_dup X.1 X.2.1 hd (by rw [pm_cat]; exact hv) (ih _ _ _ _ _ _ hk H locs ls hc hs hl hP hz hS)
    · cases hk
  · cases hk
theorem ps_pop (X : pm_X p R s m args meth c0 dC dI aC pre base xs mm)  (hd : decode (pm_b mm) pc = .ok (.pop, 1)) (ih : pm_IH p l e R s m args below meth c0 Q dC dI aC pre base mm k r) (hk : pm_pop k pc lv st h c sl = some r) : pm_W p l e R s m args below meth c0 Q dC dI aC pre base mm pc lv st h c sl := by
  unfold pm_pop at hk
  split at hk
  · rename_i v rr
    split at hk
    · rename_i hv
      intro H locs ls hc hs hl hP hz hS
      exact lv_pop (va := pm_rv pre base v) X.1 X.2.1 hd (by rw [pm_cat]; exact hv) (ih _ _ _ _ _ _ hk H locs ls hc hs hl hP hz hS)
    · cases hk
  · cases hk
theorem ps_dup2 (X : pm_X p R s m args meth c0 dC dI aC pre base xs mm)  (hd : decode (pm_b mm) pc = .ok (.dup2, 1)) (ih : pm_IH p l e R s m args below meth c0 Q dC dI aC pre base mm k r) (hk : pm_dup2 k pc lv st h c sl = some r) : pm_W p l e R s m args below meth c0 Q dC dI aC pre base mm pc lv st h c sl := by
  unfold pm_dup2 at hk
  split at hk
  · split at hk
    · rename_i hv
      split at hk
      · rename_i hw
        intro H locs ls hc hs hl hP hz hS
        exact lv_dup2_11 X.1 X.2.1 hd (by rw [pm_cat]; exact hv) (by rw [pm_cat]; exact hw) (ih _ _ _ _ _ _ hk H locs ls hc hs hl hP hz hS)
      · cases hk
    · cases hk
  · cases hk
theorem ps_ifCond (X : pm_X p R s m args meth c0 dC dI aC pre base xs mm) {cd : ClassFile.Cond} {off : Int} {tgt : Nat} (ht : (pc : Int) + off = (tgt : Int)) (hd : decode (pm_b mm) pc = .ok (.ifCond cd off, 3)) (ih : pm_IH p l e R s m args below meth c0 Q dC dI aC pre base mm k r) (hk : pm_if k cd tgt pc lv st h c sl = some r) : pm_W p l e R s m args below meth c0 Q dC dI aC pre base mm pc lv st h c sl := by
  unfold pm_if at hk
  split at hk
  · intro H locs ls hc hs hl hP hz hS
    cases cd with
    | eq => exact lv_if_eq X.1 X.2.1 hd ht (fun q => ih _ _ _ _ _ _ ((if_pos q).symm.trans hk) H locs ls hc hs hl hP hz hS) (fun q => ih _ _ _ _ _ _ ((if_neg q).symm.trans hk) H locs ls hc hs hl hP hz hS)
    | ne => exact lv_if_ne X.1 X.2.1 hd ht (fun q => ih _ _ _ _ _ _ ((if_neg q).symm.trans hk) H locs ls hc hs hl hP hz hS) (fun q => ih _ _ _ _ _ _ ((if_pos q).symm.trans hk) H locs ls hc hs hl hP hz hS)
    | lt => exact lv_if_lt X.1 X.2.1 hd ht (fun q => ih _ _ _ _ _ _ ((if_pos q).symm.trans hk) H locs ls hc hs hl hP hz hS) (fun q => ih _ _ _ _ _ _ ((if_neg q).symm.trans hk) H locs ls hc hs hl hP hz hS)
    | ge => exact lv_if_ge X.1 X.2.1 hd ht (fun q => ih _ _ _ _ _ _ ((if_pos q).symm.trans hk) H locs ls hc hs hl hP hz hS) (fun q => ih _ _ _ _ _ _ ((if_neg q).symm.trans hk) H locs ls hc hs hl hP hz hS)
    | gt => exact lv_if_gt X.1 X.2.1 hd ht (fun q => ih _ _ _ _ _ _ ((if_pos q).symm.trans hk) H locs ls hc hs hl hP hz hS) (fun q => ih _ _ _ _ _ _ ((if_neg q).symm.trans hk) H locs ls hc hs hl hP hz hS)
    | le => exact lv_if_le X.1 X.2.1 hd ht (fun q => ih _ _ _ _ _ _ ((if_pos q).symm.trans hk) H locs ls hc hs hl hP hz hS) (fun q => ih _ _ _ _ _ _ ((if_neg q).symm.trans hk) H locs ls hc hs hl hP hz hS)
  · cases hk
theorem ps_if_icmp (X : pm_X p R s m args meth c0 dC dI aC pre base xs mm) {cd : ClassFile.Cond} {off : Int} {tgt : Nat} (ht : (pc : Int) + off = (tgt : Int)) (hd : decode (pm_b mm) pc = .ok (.if_icmp cd off, 3)) (ih : pm_IH p l e R s m args below meth c0 Q dC dI aC pre base mm k r) (hk : pm_ic k cd tgt pc lv st h c sl = some r) : pm_W p l e R s m args below meth c0 Q dC dI aC pre base mm pc lv st h c sl := by
  unfold pm_ic at hk
  split at hk
  · intro H locs ls hc hs hl hP hz hS
    cases cd with
    | eq => exact lv_icmp_eq X.1 X.2.1 hd ht (fun q => ih _ _ _ _ _ _ ((if_pos q).symm.trans hk) H locs ls hc hs hl hP hz hS) (fun q => ih _ _ _ _ _ _ ((if_neg q).symm.trans hk) H locs ls hc hs hl hP hz hS)
    | ne => exact lv_icmp_ne X.1 X.2.1 hd ht (fun q => ih _ _ _ _ _ _ ((if_neg q).symm.trans hk) H locs ls hc hs hl hP hz hS) (fun q => ih _ _ _ _ _ _ ((if_pos q).symm.trans hk) H locs ls hc hs hl hP hz hS)
    | lt => exact lv_icmp_lt X.1 X.2.1 hd ht (fun q => ih _ _ _ _ _ _ ((if_pos q).symm.trans hk) H locs ls hc hs hl hP hz hS) (fun q => ih _ _ _ _ _ _ ((if_neg q).symm.trans hk) H locs ls hc hs hl hP hz hS)
    | ge => exact lv_icmp_ge X.1 X.2.1 hd ht (fun q => ih _ _ _ _ _ _ ((if_pos q).symm.trans hk) H locs ls hc hs hl hP hz hS) (fun q => ih _ _ _ _ _ _ ((if_neg q).symm.trans hk) H locs ls hc hs hl hP hz hS)
    | gt => exact lv_icmp_gt X.1 X.2.1 hd ht (fun q => ih _ _ _ _ _ _ ((if_pos q).symm.trans hk) H locs ls hc hs hl hP hz hS) (fun q => ih _ _ _ _ _ _ ((if_neg q).symm.trans hk) H locs ls hc hs hl hP hz hS)
    | le => exact lv_icmp_le X.1 X.2.1 hd ht (fun q => ih _ _ _ _ _ _ ((if_pos q).symm.trans hk) H locs ls hc hs hl hP hz hS) (fun q => ih _ _ _ _ _ _ ((if_neg q).symm.trans hk) H locs ls hc hs hl hP hz hS)
  · cases hk
theorem ps_goto (X : pm_X p R s m args meth c0 dC dI aC pre base xs mm) {off : Int} {tgt : Nat} (ht : (pc : Int) + off = (tgt : Int)) (hd : decode (pm_b mm) pc = .ok (.goto off, 3)) (ih : pm_IH p l e R s m args below meth c0 Q dC dI aC pre base mm k r) (hk : k tgt lv st h c sl = some r) : pm_W p l e R s m args below meth c0 Q dC dI aC pre base mm pc lv st h c sl := by
  intro H locs ls hc hs hl hP hz hS
  exact lv_goto X.1 X.2.1 hd ht (ih _ _ _ _ _ _ hk H locs ls hc hs hl hP hz hS)
theorem ps_jump {t : Int} (ih : pm_IH p l e R s m args below meth c0 Q dC dI aC pre base mm k r) (hk : pm_jump k t lv st h c sl = some r) : ∃ n : Nat, t = (n : Int) ∧ pm_W p l e R s m args below meth c0 Q dC dI aC pre base mm n lv st h c sl := by
  unfold pm_jump at hk
  split at hk
  · rename_i ht
    exact ⟨t.toNat, (Int.toNat_of_nonneg ht).symm, ih _ _ _ _ _ _ hk⟩
  · cases hk
theorem ps_tsw (X : pm_X p R s m args meth c0 dC dI aC pre base xs mm) {d lo hi : Int} {offs : Array Int} {len : Nat} (hd : decode (pm_b mm) pc = .ok (.tableswitch d lo hi offs, len)) (ih : pm_IH p l e R s m args below meth c0 Q dC dI aC pre base mm k r) (hk : pm_tsw k d lo hi offs pc lv st h c sl = some r) : pm_W p l e R s m args below meth c0 Q dC dI aC pre base mm pc lv st h c sl := by
  unfold pm_tsw at hk
  split at hk
  · split at hk
    · rename_i hlo
      obtain ⟨n, hn, hw⟩ := ps_jump ih hk
      intro H locs ls hc hs hl hP hz hS
      exact lv_tableOut X.1 X.2.1 hd (Or.inl hlo) hn (hw H locs ls hc hs hl hP hz hS)
    · split at hk
      · rename_i hhi
        obtain ⟨n, hn, hw⟩ := ps_jump ih hk
        intro H locs ls hc hs hl hP hz hS
        exact lv_tableOut X.1 X.2.1 hd (Or.inr hhi) hn (hw H locs ls hc hs hl hP hz hS)
      · rename_i hlo hhi
        split at hk
        · rename_i off hoff
          obtain ⟨n, hn, hw⟩ := ps_jump ih hk
          intro H locs ls hc hs hl hP hz hS
          exact lv_tableIn X.1 X.2.1 hd hlo hhi hoff hn (hw H locs ls hc hs hl hP hz hS)
        · cases hk
  · cases hk
end Rows
end
section
/-! FROM THE PURE MACHINE TO THE MACHINE: rows that read and write cells. -/
theorem pm_m1 {pre : Nat → Nat} {base a n : Nat} {rr : List Value} (h : pm_ad pre base a = n) : (Value.ref a :: rr).map (pm_rv pre base) = .ref n :: rr.map (pm_rv pre base) := by rw [← h]; rfl
theorem pm_m2 {pre : Nat → Nat} {base a n : Nat} {v : Value} {rr : List Value} (h : pm_ad pre base a = n) : (v :: Value.ref a :: rr).map (pm_rv pre base) = pm_rv pre base v :: .ref n :: rr.map (pm_rv pre base) := by rw [← h]; rfl
theorem pm_m3 {pre : Nat → Nat} {base a n : Nat} {v w : Value} {rr : List Value} (h : pm_ad pre base a = n) : (v :: w :: Value.ref a :: rr).map (pm_rv pre base) = pm_rv pre base v :: pm_rv pre base w :: .ref n :: rr.map (pm_rv pre base) := by rw [← h]; rfl
theorem pm_getD_set {α : Type} (l : List α) (n : Nat) (x d : α) (hn : n < l.length) (q : Nat) : (l.set n x).getD q d = if q = n then x else l.getD q d := by
  rw [List.getD_eq_getElem?_getD, List.getD_eq_getElem?_getD]
  by_cases hq : q = n
  · subst hq
    rw [List.getElem?_set_self hn, if_pos rfl]
    rfl
  · rw [List.getElem?_set_ne (Ne.symm hq), if_neg hq]
theorem pm_getD_rep {α : Type} (n : Nat) (x : α) (q : Nat) : (List.replicate n x).getD q x = x := by
  rw [List.getD_eq_getElem?_getD, List.getElem?_replicate]
  split <;> rfl
theorem pm_getD_of {α : Type} {l : List α} {n : Nat} {x : α} (d : α) (h : l[n]? = some x) : l.getD n d = x := by
  rw [List.getD_eq_getElem?_getD, h]; rfl
theorem pm_in {α : Type} {l : List α} {i : Int32} {x : α} (hi : ¬ i < 0) (h : l[i.toNatClampNeg]? = some x) : vp_in i l.length := by
  have h1 := (List.getElem?_eq_some_iff.mp h).1
  intro q
  rcases q with q | q
  · exact hi q
  · omega
theorem pm_inl {n : Nat} {i : Int32} (hi : ¬ i < 0) (h : i.toNatClampNeg < n) : vp_in i n := by
  intro q
  rcases q with q | q
  · exact hi q
  · omega
theorem kZrv (pre : Nat → Nat) (base ci : Nat) : (kZ ci).map (pm_rv pre base) = kZ ci := by
  unfold kZ
  split <;> rfl
section Cells
variable {p : Program} {l : Launch} {e : Env} {R : Room} {s : State} {m : MethodId} {args : Array Value} {below : List Frame} {meth : Method} {c0 : Code} {Q : State → Prop} {dC : Nat → ClassId} {dI : Nat → Nat → Nat} {aC : Nat → ClassId} {pre : Nat → Nat} {base : Nat} {xs : List Int32} {mm : pm_M} {k : pm_K} {r : Option Value × pm_H} {pc : Nat} {lv : pm_L} {st : List Value} {h : pm_H} {c sl : Nat}
theorem ps_getf (X : pm_X p R s m args meth c0 dC dI aC pre base xs mm) {ix ci f : Nat} (hf : ci < 8 ∧ f < kM ci ∧ Cond.fieldLink (kN (pm_o mm)) ix (kN ci) (kT ci f).2.1 (kT ci f).2.2.1 ∈ lw_gt) (hd : decode (pm_b mm) pc = .ok (.getfield ix, 3)) (ih : pm_IH p l e R s m args below meth c0 Q dC dI aC pre base mm k r) (hk : pm_getf k ci f pc lv st h c sl = some r) : pm_W p l e R s m args below meth c0 Q dC dI aC pre base mm pc lv st h c sl := by
  obtain ⟨hx, hb, hml, hown, hts, hin, hK, hX, hb0, hb1, hN, rfl⟩ := X
  unfold pm_getf at hk
  split at hk
  · rename_i a rr
    split at hk
    · rename_i cj fs hcell
      split at hk
      · rename_i hcj
        subst hcj
        split at hk
        · rename_i v hv
          intro H locs ls hc hs hl hP hz hS
          obtain ⟨h1, h2⟩ := pm_cell_eq pre base hcell
          rw [pm_m1 h2]
          exact va_get (D := (dC, dI)) hx hb hts (kI cj hf.1) hown hK (hP.one h1) 0 (fs := fs.map (pm_rv pre base)) rfl (kCi cj hf.1) f hf.2.1 (hts _ hf.2.2) (fun x hx => by rw [kTown cj hf.1 f hf.2.1] at hx; exact hx) (v := pm_rv pre base v) (by rw [List.getElem?_map, hv]; rfl) hd (ih _ _ _ _ _ _ hk H locs ls hc hs hl hP hz hS)
        · cases hk
      · cases hk
    · cases hk
  · cases hk
theorem ps_putf (X : pm_X p R s m args meth c0 dC dI aC pre base xs mm) {ix ci f : Nat} (hf : ci < 8 ∧ f < kM ci ∧ Cond.fieldLink (kN (pm_o mm)) ix (kN ci) (kT ci f).2.1 (kT ci f).2.2.1 ∈ lw_gt) (hfin : (kT ci f).2.2.2 = false ∨ ((kT ci f).2.2.2 = true ∧ (pm_y mm).name = "<init>" ∧ kN ci = kN (pm_o mm))) (hd : decode (pm_b mm) pc = .ok (.putfield ix, 3)) (ih : pm_IH p l e R s m args below meth c0 Q dC dI aC pre base mm k r) (hk : pm_putf k ci f pc lv st h c sl = some r) : pm_W p l e R s m args below meth c0 Q dC dI aC pre base mm pc lv st h c sl := by
  obtain ⟨hx, hb, hml, hown, hts, hin, hK, hX, hb0, hb1, hN, rfl⟩ := X
  unfold pm_putf at hk
  split at hk
  · rename_i v a rr
    split at hk
    · rename_i cj fs hcell
      split at hk
      · rename_i hcj
        subst hcj
        split at hk
        · rename_i hfl
          split at hk
          · rename_i hfit
            intro H locs ls hc hs hl hP hz hS
            obtain ⟨h1, h2⟩ := pm_cell_eq pre base hcell
            rw [pm_m2 h2]
            have hcc := kCi cj hf.1
            have hap := va_apart (own := kN (pm_o mm)) hts (kI cj hf.1) (kY cj) (kYok cj hf.1) (kNm cj hf.1) hK hcc
            obtain ⟨hn, hft⟩ := pm_fit_ok (pre := pre) (base := base) hfit
            obtain ⟨r', h1', cell, q1, q2, q3, q4⟩ := hP (a - 8) _ h1
            have hr : r' = (kN cj, kT cj, kM cj) := Option.some.inj (h1'.symm.trans hcc)
            subst hr
            obtain ⟨hS', hfc, kC', hkC, hkind⟩ := hK.1 cj _ hcc
            obtain ⟨cf, kf, fi, f', hi, hsl⟩ := hS' f hf.2.1
            have hlay := hts _ (kI cj hf.1 _ (u_in_lay hf.2.1))
            have hst := (u_facts hfc hkC (u_lays hts (kI cj hf.1) hf.2.1) hi).1
            have hsame : ∀ x, s.fieldFound? (kT cj f).1 (kT cj f).2.1 (kT cj f).2.2.1 = some x → s.fieldFound? (kN cj) (kT cj f).2.1 (kT cj f).2.2.1 = some x := fun x hx => by rw [kTown cj hf.1 f hf.2.1] at hx; exact hx
            have go : ∀ (H' : Heap), H'[base + (a - 8)]? = some (cell.setSlot f'.slot (pm_rv pre base v)) → H'.size = H.size → (∀ q, q ≠ base + (a - 8) → H'[q]? = H[q]?) → W p l e (pm_rm mm) s m args below meth c0 H' (locs ++ [⟨base + (a - 8), f'.slot⟩]) c sl Q (F0 m (pc + 3) ls (rr.map (pm_rv pre base))) := by
              intro H' e1 e2 e3
              rw [hsl] at e1 ⊢
              refine ih _ _ _ _ _ _ hk H' _ ls hc hs hl (hP.set h1 ?_ e3) (by rw [e2, hz, List.length_set]) (hS.put e2 e3 (Nat.le_add_right _ _))
              refine ⟨_, hcc, ?_⟩
              show t_OB _ _ _ _ _ (vp_V ((fs.set f v).map (pm_rv pre base)))
              rw [List.map_set]
              exact t_OB.to (V := updV (vp_V (fs.map (pm_rv pre base))) f (pm_rv pre base v)) ⟨_, e1, q2, q3, t_set q4 hap hf.2.1 _⟩ (fun j _ => vp_updV_set (by rw [List.length_map]; exact hfl) _ j)
            rcases hfin with hfin | ⟨hfin, hini, hkn⟩
            · unfold u_lay at hlay
              rw [if_neg (by rw [hfin]; decide)] at hlay
              have h6 := u_store hfc hkC hkind hlay hi (kYok cj hf.1 f hf.2.1) hn hft
              exact W.putK hx hb (f := f') ⟨hown, hts _ hf.2.2, ⟨_, _, _, hsame _ hi⟩, hst⟩ (by rw [q2]; exact h6) q1 q3 (by rw [hsl]; exact k2_hasslot (q4 f hf.2.1)) rfl rfl hd go
            · unfold u_lay at hlay
              rw [if_pos hfin] at hlay
              have hcf : m.cls = cf := by
                obtain ⟨_, _, c', _, _, _, -, -, hf', -, -, -, hown2, -⟩ := Cond.laysFinal_spec hlay
                have e1 : c' = cf := by have := hi.symm.trans hf'; simp at this; exact this.1.symm
                rw [kTown cj hf.1 f hf.2.1, hkn] at hown2
                rw [← e1]; exact Option.some.inj (hown.symm.trans hown2)
              have h6 := u_fits hfc hkC hkind (Or.inr hlay) hi (kYok cj hf.1 f hf.2.1) hn hft
              exact W.putFinK hx hb hown (hts _ hf.2.2) (hsame _ hi) hst hcf (hin hini) (by rw [q2]; exact h6) q1 q3 (by rw [hsl]; exact k2_hasslot (q4 f hf.2.1)) rfl rfl hd go
          · cases hk
        · cases hk
      · cases hk
    · cases hk
  · cases hk
theorem ps_iald (X : pm_X p R s m args meth c0 dC dI aC pre base xs mm)  (hd : decode (pm_b mm) pc = .ok (.iaload, 1)) (ih : pm_IH p l e R s m args below meth c0 Q dC dI aC pre base mm k r) (hk : pm_iald k xs pc lv st h c sl = some r) : pm_W p l e R s m args below meth c0 Q dC dI aC pre base mm pc lv st h c sl := by
  obtain ⟨hx, hb, hml, hown, hts, hin, hK, hX, hb0, hb1, hN, rfl⟩ := X
  unfold pm_iald at hk
  split at hk
  · rename_i i a rr
    split at hk
    · cases hk
    · rename_i hi
      split at hk
      · rename_i ha
        subst ha
        split at hk
        · rename_i x hx1
          intro H locs ls hc hs hl hP hz hS
          have := va_sld hx hb hX (Nat.lt_of_lt_of_le hb0 hb1) (Nat.not_le.mpr hb0) hS (pm_in hi hx1) hd (rest := rr.map (pm_rv pre base)) (Q := Q) (ls := ls) (pc := pc) (l := l) (e := e) (R := pm_rm mm) (below := below) (meth := meth) (c := c0) (cells := c) (slots := sl) (by rw [pm_getD_of 0 hx1]; exact ih _ _ _ _ _ _ hk H locs ls hc hs hl hP hz hS)
          exact this
        · cases hk
      · split at hk
        · rename_i t ll hcell
          split at hk
          · rename_i ht
            subst ht
            split at hk
            · rename_i x hx1
              intro H locs ls hc hs hl hP hz hS
              obtain ⟨h1, h2⟩ := pm_cell_eq pre base hcell
              rw [pm_m2 h2]
              refine va_iald (D := (dC, dI)) hx hb hK (hP.one h1) 0 0 rfl rfl (pm_in hi hx1) hd ?_
              show W _ _ _ _ _ _ _ _ _ _ _ _ _ _ _ (F0 _ _ _ (.int (ll.getD i.toNatClampNeg 0) :: _))
              rw [pm_getD_of 0 hx1]
              exact ih _ _ _ _ _ _ hk H locs ls hc hs hl hP hz hS
            · cases hk
          · cases hk
        · cases hk
  · cases hk
theorem ps_bald (X : pm_X p R s m args meth c0 dC dI aC pre base xs mm)  (hd : decode (pm_b mm) pc = .ok (.baload, 1)) (ih : pm_IH p l e R s m args below meth c0 Q dC dI aC pre base mm k r) (hk : pm_bald k pc lv st h c sl = some r) : pm_W p l e R s m args below meth c0 Q dC dI aC pre base mm pc lv st h c sl := by
  obtain ⟨hx, hb, hml, hown, hts, hin, hK, hX, hb0, hb1, hN, rfl⟩ := X
  unfold pm_bald at hk
  split at hk
  · rename_i i a rr
    split at hk
    · cases hk
    · rename_i hi
      split at hk
      · rename_i t ll hcell
        split at hk
        · rename_i ht
          split at hk
          · rename_i x hx1
            intro H locs ls hc hs hl hP hz hS
            obtain ⟨h1, h2⟩ := pm_cell_eq pre base hcell
            rw [pm_m2 h2]
            rcases ht with rfl | rfl
            · refine va_bald (D := (dC, dI)) hx hb hK (hP.one h1) 0 1 rfl rfl (pm_in hi hx1) hd ?_
              show W _ _ _ _ _ _ _ _ _ _ _ _ _ _ _ (F0 _ _ _ (.int (ll.getD i.toNatClampNeg 0) :: _))
              rw [pm_getD_of 0 hx1]
              exact ih _ _ _ _ _ _ hk H locs ls hc hs hl hP hz hS
            · refine va_zald (D := (dC, dI)) hx hb hK (hP.one h1) 0 2 rfl rfl (pm_in hi hx1) hd ?_
              show W _ _ _ _ _ _ _ _ _ _ _ _ _ _ _ (F0 _ _ _ (.int (ll.getD i.toNatClampNeg 0) :: _))
              rw [pm_getD_of 0 hx1]
              exact ih _ _ _ _ _ _ hk H locs ls hc hs hl hP hz hS
          · cases hk
        · cases hk
      · cases hk
  · cases hk
theorem ps_lald (X : pm_X p R s m args meth c0 dC dI aC pre base xs mm)  (hd : decode (pm_b mm) pc = .ok (.laload, 1)) (ih : pm_IH p l e R s m args below meth c0 Q dC dI aC pre base mm k r) (hk : pm_lald k pc lv st h c sl = some r) : pm_W p l e R s m args below meth c0 Q dC dI aC pre base mm pc lv st h c sl := by
  obtain ⟨hx, hb, hml, hown, hts, hin, hK, hX, hb0, hb1, hN, rfl⟩ := X
  unfold pm_lald at hk
  split at hk
  · rename_i i a rr
    split at hk
    · cases hk
    · rename_i hi
      split at hk
      · rename_i t ll hcell
        split at hk
        · rename_i ht
          subst ht
          split at hk
          · rename_i x hx1
            intro H locs ls hc hs hl hP hz hS
            obtain ⟨h1, h2⟩ := pm_cell_eq pre base hcell
            rw [pm_m2 h2]
            refine va_lald (D := (dC, dI)) hx hb hK (hP.one h1) 0 3 rfl rfl (pm_in hi hx1) hd ?_
            show W _ _ _ _ _ _ _ _ _ _ _ _ _ _ _ (F0 _ _ _ (.long (ll.getD i.toNatClampNeg 0) :: _))
            rw [pm_getD_of 0 hx1]
            exact ih _ _ _ _ _ _ hk H locs ls hc hs hl hP hz hS
          · cases hk
        · cases hk
      · cases hk
  · cases hk
theorem ps_aald (X : pm_X p R s m args meth c0 dC dI aC pre base xs mm)  (hd : decode (pm_b mm) pc = .ok (.aaload, 1)) (ih : pm_IH p l e R s m args below meth c0 Q dC dI aC pre base mm k r) (hk : pm_aald k pc lv st h c sl = some r) : pm_W p l e R s m args below meth c0 Q dC dI aC pre base mm pc lv st h c sl := by
  obtain ⟨hx, hb, hml, hown, hts, hin, hK, hX, hb0, hb1, hN, rfl⟩ := X
  unfold pm_aald at hk
  split at hk
  · rename_i i a rr
    split at hk
    · cases hk
    · rename_i hi
      split at hk
      · rename_i t ll hcell
        split at hk
        · rename_i ht
          split at hk
          · rename_i x hx1
            intro H locs ls hc hs hl hP hz hS
            obtain ⟨h1, h2⟩ := pm_cell_eq pre base hcell
            rw [pm_m2 h2]
            have key : ∀ (C : String) (t0 : Nat), (pm_ty aC)[t0]? = some (aC t, .object C) → W p l e (pm_rm mm) s m args below meth c0 H locs c sl Q (F0 m pc ls (.int i :: .ref (base + (a - 8)) :: rr.map (pm_rv pre base))) := by
              intro C t0 htt
              refine va_aldq (D := (dC, dI)) hx hb hK (hP.one h1) 0 t0 rfl htt (pm_in hi hx1) hd ?_
              show W _ _ _ _ _ _ _ _ _ _ _ _ _ _ _ (F0 _ _ _ (va_rf ((ll.getD i.toNatClampNeg none).map (pm_ad pre base)) :: _))
              rw [pm_getD_of none hx1]
              exact ih _ _ _ _ _ _ hk H locs ls hc hs hl hP hz hS
            rcases ht with rfl | rfl
            · exact key _ 4 rfl
            · exact key _ 5 rfl
          · cases hk
        · cases hk
      · cases hk
  · cases hk
theorem ps_iast (X : pm_X p R s m args meth c0 dC dI aC pre base xs mm)  (hd : decode (pm_b mm) pc = .ok (.iastore, 1)) (ih : pm_IH p l e R s m args below meth c0 Q dC dI aC pre base mm k r) (hk : pm_iast k pc lv st h c sl = some r) : pm_W p l e R s m args below meth c0 Q dC dI aC pre base mm pc lv st h c sl := by
  obtain ⟨hx, hb, hml, hown, hts, hin, hK, hX, hb0, hb1, hN, rfl⟩ := X
  unfold pm_iast at hk
  split at hk
  · rename_i x i a rr
    split at hk
    · cases hk
    · rename_i hi
      split at hk
      · rename_i t ll hcell
        split at hk
        · rename_i ht
          subst ht
          split at hk
          · rename_i hlt
            intro H locs ls hc hs hl hP hz hS
            obtain ⟨h1, h2⟩ := pm_cell_eq pre base hcell
            rw [pm_m3 h2]
            refine W.iast hx hb (hP _ _ h1) ((hK.2 0 _ rfl).1 ll.length (fun j => .int (ll.getD j 0))) (fun q => by cases q) (by show ¬ (i < 0 ∨ (arrV _ _ _).slots.size ≤ _); rw [arrV_size]; exact pm_inl hi hlt) rfl rfl hd fun H1 e1 z oq => ?_
            refine ih _ _ _ _ _ _ hk H1 _ ls hc hs hl (hP.set h1 ?_ oq) (by rw [z, hz, List.length_set]) (hS.put z oq (Nat.le_add_right _ _))
            show H1[base + (a - 8)]? = some (vp_cell (aC 0) ((ll.set _ _).length, .inl (fun j => (ll.set _ _).getD j 0)))
            rw [e1, List.length_set]
            show some ((vp_cell _ _).setSlot _ _) = _
            rw [vp_cell_i, vp_cell_i, arrV_store]
            congr 2
            funext q
            rw [pm_getD_set _ _ _ _ hlt]
            by_cases hq : q = i.toNatClampNeg
            · subst hq
              first | (simp [updV]; done) | (simp [updV]; rfl)
            · simp [updV, hq]
          · cases hk
        · cases hk
      · cases hk
  · cases hk
theorem ps_last (X : pm_X p R s m args meth c0 dC dI aC pre base xs mm)  (hd : decode (pm_b mm) pc = .ok (.lastore, 1)) (ih : pm_IH p l e R s m args below meth c0 Q dC dI aC pre base mm k r) (hk : pm_last k pc lv st h c sl = some r) : pm_W p l e R s m args below meth c0 Q dC dI aC pre base mm pc lv st h c sl := by
  obtain ⟨hx, hb, hml, hown, hts, hin, hK, hX, hb0, hb1, hN, rfl⟩ := X
  unfold pm_last at hk
  split at hk
  · rename_i x i a rr
    split at hk
    · cases hk
    · rename_i hi
      split at hk
      · rename_i t ll hcell
        split at hk
        · rename_i ht
          subst ht
          split at hk
          · rename_i hlt
            intro H locs ls hc hs hl hP hz hS
            obtain ⟨h1, h2⟩ := pm_cell_eq pre base hcell
            rw [pm_m3 h2]
            refine W.last hx hb (hP _ _ h1) ((hK.2 3 _ rfl).1 ll.length (fun j => .long (ll.getD j 0))) (fun q => by cases q) (by show ¬ (i < 0 ∨ (arrV _ _ _).slots.size ≤ _); rw [arrV_size]; exact pm_inl hi hlt) rfl rfl hd fun H1 e1 z oq => ?_
            refine ih _ _ _ _ _ _ hk H1 _ ls hc hs hl (hP.set h1 ?_ oq) (by rw [z, hz, List.length_set]) (hS.put z oq (Nat.le_add_right _ _))
            show H1[base + (a - 8)]? = some (vp_cell (aC 3) ((ll.set _ _).length, .inr (.inl (fun j => (ll.set _ _).getD j 0))))
            rw [e1, List.length_set]
            show some ((vp_cell _ _).setSlot _ _) = _
            rw [vp_cell_l, vp_cell_l, arrV_store]
            congr 2
            funext q
            rw [pm_getD_set _ _ _ _ hlt]
            by_cases hq : q = i.toNatClampNeg
            · subst hq
              first | (simp [updV]; done) | (simp [updV]; rfl)
            · simp [updV, hq]
          · cases hk
        · cases hk
      · cases hk
  · cases hk
theorem ps_bast (X : pm_X p R s m args meth c0 dC dI aC pre base xs mm)  (hd : decode (pm_b mm) pc = .ok (.bastore, 1)) (ih : pm_IH p l e R s m args below meth c0 Q dC dI aC pre base mm k r) (hk : pm_bast k pc lv st h c sl = some r) : pm_W p l e R s m args below meth c0 Q dC dI aC pre base mm pc lv st h c sl := by
  obtain ⟨hx, hb, hml, hown, hts, hin, hK, hX, hb0, hb1, hN, rfl⟩ := X
  unfold pm_bast at hk
  split at hk
  · rename_i x i a rr
    split at hk
    · cases hk
    · rename_i hi
      split at hk
      · rename_i t ll hcell
        split at hk
        · rename_i ht
          subst ht
          split at hk
          · rename_i hlt
            intro H locs ls hc hs hl hP hz hS
            obtain ⟨h1, h2⟩ := pm_cell_eq pre base hcell
            rw [pm_m3 h2]
            refine W.bast hx hb (hP _ _ h1) ((hK.2 1 _ rfl).1 ll.length (fun j => .int (ll.getD j 0))) (fun q => by cases q) (by show ¬ (i < 0 ∨ (arrV _ _ _).slots.size ≤ _); rw [arrV_size]; exact pm_inl hi hlt) rfl rfl hd fun H1 e1 z oq => ?_
            refine ih _ _ _ _ _ _ hk H1 _ ls hc hs hl (hP.set h1 ?_ oq) (by rw [z, hz, List.length_set]) (hS.put z oq (Nat.le_add_right _ _))
            show H1[base + (a - 8)]? = some (vp_cell (aC 1) ((ll.set _ _).length, .inl (fun j => (ll.set _ _).getD j 0)))
            rw [e1, List.length_set]
            show some ((vp_cell _ _).setSlot _ _) = _
            rw [vp_cell_i, vp_cell_i, arrV_store]
            congr 2
            funext q
            rw [pm_getD_set _ _ _ _ hlt]
            by_cases hq : q = i.toNatClampNeg
            · subst hq
              first | (simp [updV]; done) | (simp [updV]; rfl)
            · simp [updV, hq]
          · cases hk
        · split at hk
          · rename_i ht
            subst ht
            split at hk
            · rename_i hlt
              intro H locs ls hc hs hl hP hz hS
              obtain ⟨h1, h2⟩ := pm_cell_eq pre base hcell
              rw [pm_m3 h2]
              refine W.zast hx hb (hP _ _ h1) ((hK.2 2 _ rfl).1 ll.length (fun j => .int (ll.getD j 0))) (fun q => by cases q) (by show ¬ (i < 0 ∨ (arrV _ _ _).slots.size ≤ _); rw [arrV_size]; exact pm_inl hi hlt) rfl rfl hd fun H1 e1 z oq => ?_
              refine ih _ _ _ _ _ _ hk H1 _ ls hc hs hl (hP.set h1 ?_ oq) (by rw [z, hz, List.length_set]) (hS.put z oq (Nat.le_add_right _ _))
              show H1[base + (a - 8)]? = some (vp_cell (aC 2) ((ll.set _ _).length, .inl (fun j => (ll.set _ _).getD j 0)))
              rw [e1, List.length_set]
              show some ((vp_cell _ _).setSlot _ _) = _
              rw [vp_cell_i, vp_cell_i, arrV_store]
              congr 2
              funext q
              rw [pm_getD_set _ _ _ _ hlt]
              by_cases hq : q = i.toNatClampNeg
              · subst hq
                first | (simp [updV]; done) | (simp [updV]; rfl)
              · simp [updV, hq]
            · cases hk
          · cases hk
      · cases hk
  · cases hk
end Cells
end
section
/-! FROM THE PURE MACHINE TO THE MACHINE: new cells, arrays of references, arraycopy. -/
theorem kA_int : Cond.arrayClass .int ∈ lw_gt := lw_gi 215 (by decide +kernel) (by decide +kernel)
theorem kA_byte : Cond.arrayClass .byte ∈ lw_gt := lw_gi 113 (by decide +kernel) (by decide +kernel)
theorem kA_boolean : Cond.arrayClass .boolean ∈ lw_gt := lw_gi 1091 (by decide +kernel) (by decide +kernel)
theorem kA_long : Cond.arrayClass .long ∈ lw_gt := lw_gi 298 (by decide +kernel) (by decide +kernel)
theorem kO_inst : Cond.instanceMethod objectInit ∈ lw_gt := lw_gi 81 (by decide +kernel) (by decide +kernel)
theorem kO_code : Cond.code objectInit ⟨#[0xb1]⟩ 1 none ∈ lw_gt := lw_gi 82 (by decide +kernel) (by decide +kernel)
theorem kY_nat : Cond.native arraycopyName ∈ lw_gt := lw_gi 537 (by decide +kernel) (by decide +kernel)
theorem kY_stat : Cond.static arraycopyName ∈ lw_gt := lw_gi 536 (by decide +kernel) (by decide +kernel)
theorem kY_init : Cond.initialized "java/lang/System" ∈ lw_gt := lw_gi 72 (by decide +kernel) (by decide +kernel)
theorem pm_len_cpy {α : Type} (f g : List α) (sp dp n : Nat) (h1 : sp + n ≤ f.length) (h2 : dp + n ≤ g.length) : (pm_cpy f g sp dp n).length = g.length := by
  unfold pm_cpy
  simp only [List.length_append, List.length_take, List.length_drop]
  omega
theorem pm_getD_cpy {α : Type} (f g : List α) (sp dp n : Nat) (d : α) (h1 : sp + n ≤ f.length) (h2 : dp + n ≤ g.length) (q : Nat) : (pm_cpy f g sp dp n).getD q d = va_cpy (fun j => f.getD j d) (fun j => g.getD j d) sp dp n q := by
  unfold pm_cpy va_cpy
  simp only [List.getD_eq_getElem?_getD]
  congr 1
  have e1 : (g.take dp).length = dp := by rw [List.length_take]; omega
  have e2 : ((f.drop sp).take n).length = n := by rw [List.length_take, List.length_drop]; omega
  by_cases ha : q < dp
  · rw [if_neg (by omega), List.getElem?_append_left (by omega), List.getElem?_take_of_lt ha]
  · by_cases hb : q < dp + n
    · rw [if_pos ⟨by omega, hb⟩, List.getElem?_append_right (by omega), e1, List.getElem?_append_left (by omega), List.getElem?_take_of_lt (by omega), List.getElem?_drop]
    · rw [if_neg (by omega), List.getElem?_append_right (by omega), e1, List.getElem?_append_right (by omega), e2, List.getElem?_drop, show dp + n + (q - dp - n) = q by omega]
section New
variable {p : Program} {l : Launch} {e : Env} {R : Room} {s : State} {m : MethodId} {args : Array Value} {below : List Frame} {meth : Method} {c0 : Code} {Q : State → Prop} {dC : Nat → ClassId} {dI : Nat → Nat → Nat} {aC : Nat → ClassId} {pre : Nat → Nat} {base : Nat} {xs : List Int32} {mm : pm_M} {k : pm_K} {r : Option Value × pm_H} {pc : Nat} {lv : pm_L} {st : List Value} {h : pm_H} {c sl : Nat}
theorem pm_Sp {H H1 : Heap} {locs : List Loc} (hS : va_S (fun q => base ≤ q) s.heap H locs) (z1 : H1.size = H.size + 1) (o1 : ∀ q, q < H.size → H1[q]? = H[q]?) : va_S (fun q => base ≤ q) s.heap H1 locs := ⟨Nat.le_trans hS.1 (by omega), fun x h1 h2 => (o1 x (Nat.lt_of_lt_of_le h1 hS.1)).trans (hS.2.1 x h1 h2), hS.2.2⟩
theorem ps_new (X : pm_X p R s m args meth c0 dC dI aC pre base xs mm) {ix ci : Nat} (hf : ci < 8 ∧ Cond.classLink (kN (pm_o mm)) ix (kN ci) ∈ lw_gt ∧ Cond.instantiable (kN ci) (kM ci) ∈ lw_gt ∧ Cond.initialized (kN ci) ∈ lw_gt) (hd : decode (pm_b mm) pc = .ok (.new ix, 3)) (ih : pm_IH p l e R s m args below meth c0 Q dC dI aC pre base mm k r) (hk : pm_new k mm ci pc lv st h c sl = some r) : pm_W p l e R s m args below meth c0 Q dC dI aC pre base mm pc lv st h c sl := by
  obtain ⟨hx, hb, hml, hown, hts, hin, hK, hX, hb0, hb1, hN, rfl⟩ := X
  unfold pm_new at hk
  split at hk
  · rename_i hc1
    split at hk
    · rename_i hs1
      intro H locs ls hc hs hl hP hz hS
      have hcc := kCi ci hf.1
      have hKn := hK.1 ci _ hcc
      refine W.newcK hx hb hown (hts _ hf.2.1) (hts _ hf.2.2.1) (hts _ hf.2.2.2) rfl hd hc1 hs1 hKn.2.1 rfl fun H1 kC' hkC e1 z1 o1 => ?_
      have g := ih _ _ _ _ _ _ hk H1 locs ls hc1 hs1 hl (hP.push hz ⟨_, hcc, (u_born (kY ci) hts (kI ci hf.1) hKn hkC e1 (kYok ci hf.1)).to (fun j hj => by show _ = vp_V ((kZ ci).map _) j; rw [kZrv]; exact kZok ci hf.1 j hj)⟩ o1) (by rw [z1, hz, List.length_append]; rfl) (pm_Sp hS z1 o1)
      rw [pm_m1 (n := H.size) (by rw [pm_ad_new, hz])] at g
      exact g
    · cases hk
  · cases hk
theorem ps_newa (X : pm_X p R s m args meth c0 dC dI aC pre base xs mm) {at_ : ArrayType} (hd : decode (pm_b mm) pc = .ok (.newarray at_, 2)) (ih : pm_IH p l e R s m args below meth c0 Q dC dI aC pre base mm k r) (hk : pm_newa k mm at_ pc lv st h c sl = some r) : pm_W p l e R s m args below meth c0 Q dC dI aC pre base mm pc lv st h c sl := by
  obtain ⟨hx, hb, hml, hown, hts, hin, hK, hX, hb0, hb1, hN, rfl⟩ := X
  unfold pm_newa at hk
  split at hk
  · rename_i n rr
    split at hk
    · cases hk
    · rename_i hn
      split at hk
      · rename_i hNl
        split at hk
        · rename_i hc1
          split at hk
          · rename_i hs1
            intro H locs ls hc hs hl hP hz hS
            split at hk
            · have hcA := hK.2 0 _ rfl
              refine va_newaK (atype := .int) hx hb (hts _ kA_int) rfl hd rfl hn rfl (by show _ * 4 ≤ _; omega) hc1 hs1 rfl fun H1 cA e1 z1 o1 hAr hNm => ?_
              have ec : cA = aC 0 := Option.some.inj (hNm.symm.trans hcA.2)
              subst ec
              have g := ih _ _ _ _ _ _ hk H1 locs ls hc1 hs1 hl (hP.push hz (by
                show H1[H.size]? = some (vp_cell (aC 0) ((List.replicate n.toNatClampNeg 0).length, .inl (fun j => (List.replicate n.toNatClampNeg 0).getD j 0)))
                rw [e1, vp_cell_i, List.length_replicate]
                congr 2
                funext q
                rw [pm_getD_rep]
                rfl) o1) (by rw [z1, hz, List.length_append]; rfl) (pm_Sp hS z1 o1)
              rw [pm_m1 (n := H.size) (by rw [pm_ad_new, hz])] at g
              exact g
            · have hcA := hK.2 1 _ rfl
              refine va_newaK (atype := .byte) hx hb (hts _ kA_byte) rfl hd rfl hn rfl (by show _ * 1 ≤ _; omega) hc1 hs1 rfl fun H1 cA e1 z1 o1 hAr hNm => ?_
              have ec : cA = aC 1 := Option.some.inj (hNm.symm.trans hcA.2)
              subst ec
              have g := ih _ _ _ _ _ _ hk H1 locs ls hc1 hs1 hl (hP.push hz (by
                show H1[H.size]? = some (vp_cell (aC 1) ((List.replicate n.toNatClampNeg 0).length, .inl (fun j => (List.replicate n.toNatClampNeg 0).getD j 0)))
                rw [e1, vp_cell_i, List.length_replicate]
                congr 2
                funext q
                rw [pm_getD_rep]
                rfl) o1) (by rw [z1, hz, List.length_append]; rfl) (pm_Sp hS z1 o1)
              rw [pm_m1 (n := H.size) (by rw [pm_ad_new, hz])] at g
              exact g
            · have hcA := hK.2 2 _ rfl
              refine va_newaK (atype := .boolean) hx hb (hts _ kA_boolean) rfl hd rfl hn rfl (by show _ * 1 ≤ _; omega) hc1 hs1 rfl fun H1 cA e1 z1 o1 hAr hNm => ?_
              have ec : cA = aC 2 := Option.some.inj (hNm.symm.trans hcA.2)
              subst ec
              have g := ih _ _ _ _ _ _ hk H1 locs ls hc1 hs1 hl (hP.push hz (by
                show H1[H.size]? = some (vp_cell (aC 2) ((List.replicate n.toNatClampNeg 0).length, .inl (fun j => (List.replicate n.toNatClampNeg 0).getD j 0)))
                rw [e1, vp_cell_i, List.length_replicate]
                congr 2
                funext q
                rw [pm_getD_rep]
                rfl) o1) (by rw [z1, hz, List.length_append]; rfl) (pm_Sp hS z1 o1)
              rw [pm_m1 (n := H.size) (by rw [pm_ad_new, hz])] at g
              exact g
            · have hcA := hK.2 3 _ rfl
              refine va_newaK (atype := .long) hx hb (hts _ kA_long) rfl hd rfl hn rfl (by show _ * 8 ≤ _; omega) hc1 hs1 rfl fun H1 cA e1 z1 o1 hAr hNm => ?_
              have ec : cA = aC 3 := Option.some.inj (hNm.symm.trans hcA.2)
              subst ec
              have g := ih _ _ _ _ _ _ hk H1 locs ls hc1 hs1 hl (hP.push hz (by
                show H1[H.size]? = some (vp_cell (aC 3) ((List.replicate n.toNatClampNeg 0).length, .inr (.inl (fun j => (List.replicate n.toNatClampNeg 0).getD j 0))))
                rw [e1, vp_cell_l, List.length_replicate]
                congr 2
                funext q
                rw [pm_getD_rep]
                rfl) o1) (by rw [z1, hz, List.length_append]; rfl) (pm_Sp hS z1 o1)
              rw [pm_m1 (n := H.size) (by rw [pm_ad_new, hz])] at g
              exact g
            · cases hk
          · cases hk
        · cases hk
      · cases hk
  · cases hk
theorem ps_anew (X : pm_X p R s m args meth c0 dC dI aC pre base xs mm) {ix t : Nat} {C : String} (hf : (pm_ty aC)[t]? = some (aC t, .object C) ∧ Cond.classLink (kN (pm_o mm)) ix C ∈ lw_gt ∧ (C = "MoodTown$Town" ∨ C = "MoodTown$Sheet")) (hd : decode (pm_b mm) pc = .ok (.anewarray ix, 3)) (ih : pm_IH p l e R s m args below meth c0 Q dC dI aC pre base mm k r) (hk : pm_anew k mm t pc lv st h c sl = some r) : pm_W p l e R s m args below meth c0 Q dC dI aC pre base mm pc lv st h c sl := by
  obtain ⟨hx, hb, hml, hown, hts, hin, hK, hX, hb0, hb1, hN, rfl⟩ := X
  unfold pm_anew at hk
  split at hk
  · rename_i n rr
    split at hk
    · cases hk
    · rename_i hn
      split at hk
      · rename_i hNl
        split at hk
        · rename_i hc1
          split at hk
          · rename_i hs1
            intro H locs ls hc hs hl hP hz hS
            have hover : va_AO C s := by
              rcases hf.2.2 with rfl | rfl
              · exact hN.1
              · exact hN.2.1
            refine W.anew hx hb hown (hts _ hf.2.1) (va_AO.use hover) rfl hd rfl hn (by omega) hc1 hs1 fun cA kA comp f1 f2 f3 f4 => ?_
            generalize hH1 : H.push ({ cls := cA, slots := Array.replicate n.toNatClampNeg .null, vm := .none } : Cell) = H1
            have z1 : H1.size = H.size + 1 := by rw [← hH1, Array.size_push]
            have e1 : H1[H.size]? = some (arrV cA n.toNatClampNeg (fun _ => .null)) := by rw [← hH1, Array.getElem?_push_size, ← arrV_new]
            have o1 : ∀ q : Nat, q < H.size → H1[q]? = H[q]? := fun q hq => by rw [← hH1, Array.getElem?_push, if_neg (Nat.ne_of_lt hq)]
            obtain ⟨-, kA2, comp2, -, -, -, g4⟩ := hK.2 t _ hf.1
            have ec : cA = aC t := Option.some.inj (f1.symm.trans g4)
            subst ec
            have g := ih _ _ _ _ _ _ hk H1 locs ls hc1 hs1 hl (hP.push hz (by
              show H1[H.size]? = some (vp_cell (aC t) ((List.replicate n.toNatClampNeg none).length, .inr (.inr (.inr (.inr (fun j => ((List.replicate n.toNatClampNeg none).getD j none).map (pm_ad pre base)))))))
              rw [e1, vp_cell_q, List.length_replicate]
              congr 2
              funext q
              rw [pm_getD_rep]
              rfl) o1) (by rw [z1, hz, List.length_append]; rfl) (pm_Sp hS z1 o1)
            rw [pm_m1 (n := H.size) (by rw [pm_ad_new, hz])] at g
            exact g
          · cases hk
        · cases hk
      · cases hk
  · cases hk
theorem ps_aast (X : pm_X p R s m args meth c0 dC dI aC pre base xs mm)  (hd : decode (pm_b mm) pc = .ok (.aastore, 1)) (ih : pm_IH p l e R s m args below meth c0 Q dC dI aC pre base mm k r) (hk : pm_aast k pc lv st h c sl = some r) : pm_W p l e R s m args below meth c0 Q dC dI aC pre base mm pc lv st h c sl := by
  obtain ⟨hx, hb, hml, hown, hts, hin, hK, hX, hb0, hb1, hN, rfl⟩ := X
  unfold pm_aast at hk
  split at hk
  · rename_i v i a rr
    split at hk
    · cases hk
    · rename_i hi
      split at hk
      · rename_i t ll cj fs hcell hcv
        split at hk
        · rename_i ht
          split at hk
          · rename_i hcj
            split at hk
            · rename_i hlt
              intro H locs ls hc hs hl hP hz hS
              obtain ⟨h1, h2⟩ := pm_cell_eq pre base hcell
              obtain ⟨v1, v2⟩ := pm_cell_eq pre base hcv
              rw [pm_m3 h2]
              show W _ _ _ _ _ _ _ _ _ _ _ _ _ _ _ (F0 _ _ _ (.ref (pm_ad pre base v) :: _ :: _ :: _))
              have key : ∀ (C : String), (pm_ty aC)[t]? = some (aC t, .object C) → kC[cj]? = some (kN cj, kT cj, kM cj) → kN cj = C → W p l e (pm_rm mm) s m args below meth c0 H locs c sl Q (F0 m pc ls (.ref (pm_ad pre base v) :: .int i :: .ref (base + (a - 8)) :: rr.map (pm_rv pre base))) := by
                intro C htt hcc hN
                subst hN
                obtain ⟨r', hr', cellV, g1, g2, g3, -⟩ := hP (v - 8) _ v1
                have hcls := (hK.1 cj _ hcc).2
                obtain ⟨kA, comp, k1, k2, k3, -⟩ := (hK.2 t _ htt).2
                have hcomp : comp = dC cj := Option.some.inj (k3.symm.trans hcls.1)
                subst hcomp
                have hcls2 := hcls
                obtain ⟨kC', hkC, -⟩ := hcls2.2
                rw [v2]
                refine W.aast hx hb (hP (a - 8) _ h1) (fun q h => by cases h) (fun h => by cases h) k1 k2 rfl hkC ⟨hi, by show _ < (arrV _ _ _).slots.size; rw [arrV_size]; exact hlt⟩ g1 (fun q h => by rw [g3] at h; cases h) (by rw [g2]; exact hkC) (by rw [g2]; exact va_assign hcls) rfl rfl hd fun H1 e1 z oq => ?_
                refine ih _ _ _ _ _ _ hk H1 _ ls hc hs hl (hP.set h1 ?_ oq) (by rw [z, hz, List.length_set]) (hS.put z oq (Nat.le_add_right _ _))
                show H1[base + (a - 8)]? = some (vp_cell (aC t) ((ll.set _ _).length, .inr (.inr (.inr (.inr (fun j => ((ll.set _ _).getD j none).map (pm_ad pre base)))))))
                rw [e1, List.length_set]
                show some ((vp_cell _ _).setSlot _ _) = _
                rw [vp_cell_q, vp_cell_q, arrV_store]
                congr 2
                funext q
                rw [pm_getD_set _ _ _ _ hlt]
                by_cases hq : q = i.toNatClampNeg
                · subst hq
                  simp [updV, va_rf, v2]
                · simp [updV, hq]
              rcases ht with rfl | rfl
              · subst hcj
                exact key _ rfl rfl rfl
              · subst hcj
                exact key _ rfl rfl rfl
            · cases hk
          · cases hk
        · cases hk
      · cases hk
  · cases hk
theorem ps_alen (X : pm_X p R s m args meth c0 dC dI aC pre base xs mm)  (hd : decode (pm_b mm) pc = .ok (.arraylength, 1)) (ih : pm_IH p l e R s m args below meth c0 Q dC dI aC pre base mm k r) (hk : pm_alen k xs pc lv st h c sl = some r) : pm_W p l e R s m args below meth c0 Q dC dI aC pre base mm pc lv st h c sl := by
  obtain ⟨hx, hb, hml, hown, hts, hin, hK, hX, hb0, hb1, hN, rfl⟩ := X
  unfold pm_alen at hk
  split at hk
  · rename_i a rr
    split at hk
    · rename_i ha
      subst ha
      intro H locs ls hc hs hl hP hz hS
      exact va_slen (A := fun q => base ≤ q) hx hb hX (Nat.lt_of_lt_of_le hb0 hb1) (Nat.not_le.mpr hb0) hS hd (ih _ _ _ _ _ _ hk H locs ls hc hs hl hP hz hS)
    · split at hk
      · rename_i t ll hcell
        split at hk
        · rename_i ht
          intro H locs ls hc hs hl hP hz hS
          obtain ⟨h1, h2⟩ := pm_cell_eq pre base hcell
          rw [pm_m1 h2]
          have key : ∀ (ty : FieldType), (pm_ty aC)[t]? = some (aC t, ty) → W p l e (pm_rm mm) s m args below meth c0 H locs c sl Q (F0 m pc ls (.ref (base + (a - 8)) :: rr.map (pm_rv pre base))) := fun ty htt => va_alen (D := (dC, dI)) hx hb hK (hP.one h1) 0 t rfl htt rfl hd (ih _ _ _ _ _ _ hk H locs ls hc hs hl hP hz hS)
          rcases (by omega : t = 0 ∨ t = 1 ∨ t = 2) with rfl | rfl | rfl
          · exact key _ rfl
          · exact key _ rfl
          · exact key _ rfl
        · cases hk
      · cases hk
  · cases hk
theorem ps_copy (X : pm_X p R s m args meth c0 dC dI aC pre base xs mm) {ix : Nat} (hf : Cond.methodLink (kN (pm_o mm)) ix arraycopyName ∈ lw_gt ∧ 1 ≤ pm_f mm ∧ 18 ≤ pm_w mm) (hd : decode (pm_b mm) pc = .ok (.invokestatic ix, 3)) (ih : pm_IH p l e R s m args below meth c0 Q dC dI aC pre base mm k r) (hk : pm_copy k pc lv st h c sl = some r) : pm_W p l e R s m args below meth c0 Q dC dI aC pre base mm pc lv st h c sl := by
  obtain ⟨hx, hb, hml, hown, hts, hin, hK, hX, hb0, hb1, hN, rfl⟩ := X
  unfold pm_copy at hk
  split at hk
  · rename_i n dp a sp b
    split at hk
    · cases hk
    · rename_i hsp
      split at hk
      · cases hk
      · rename_i hdp
        split at hk
        · cases hk
        · rename_i hn0
          split at hk
          · rename_i t g u f hca hcb
            split at hk
            · rename_i htu
              obtain ⟨rfl, rfl⟩ := htu
              split at hk
              · rename_i h4
                split at hk
                · rename_i h5
                  intro H locs ls hc hs hl hP hz hS
                  obtain ⟨a1, a2⟩ := pm_cell_eq pre base hca
                  obtain ⟨b1, b2⟩ := pm_cell_eq pre base hcb
                  show W _ _ _ _ _ _ _ _ _ _ _ _ _ _ _ (F0 _ _ _ (.int n :: .int dp :: .ref (pm_ad pre base a) :: .int sp :: .ref (pm_ad pre base b) :: []))
                  rw [a2, b2]
                  have nn : ∀ z : Int32, ¬ z < 0 → z.toInt = (z.toNatClampNeg : Int) := by
                    intro z hz
                    have hz0 : (0 : Int) ≤ z.toInt := by
                      have := Int32.not_lt.mp hz
                      simpa using Int32.le_iff_toInt_le.mp this
                    show z.toInt = ((z.toInt.toNat : Nat) : Int)
                    omega
                  intro T hT XT
                  have hc0 : H[base + (b - 8)]? = some (vp_cell (aC 0) (f.length, .inl (fun j => f.getD j 0))) := hP _ _ b1
                  have hc1 : H[base + (a - 8)]? = some (vp_cell (aC 0) (g.length, .inl (fun j => g.getD j 0))) := hP _ _ a1
                  obtain ⟨-, k0, hk0, cm0, hkk0⟩ := (hK.2 0 _ rfl).1 f.length (fun j => .int (f.getD j 0))
                  obtain ⟨-, k1, hk1, cm1, hkk1⟩ := (hK.2 0 _ rfl).1 g.length (fun j => .int (g.getD j 0))
                  obtain ⟨vm', X', step⟩ := XT.arraycopy hx hown (hts _ hf.1) (hts _ kY_nat) (hts _ kY_stat) (hts _ kY_init) (src := base + (b - 8)) (dst := base + (a - 8)) (cs := vp_cell (aC 0) (f.length, .inl (fun j => f.getD j 0))) (cd := vp_cell (aC 0) (g.length, .inl (fun j => g.getD j 0))) (srcPos := sp) (destPos := dp) (n := n) (by rw [hT]; exact hc0) (by rw [hT]; exact hc1)
                    (fun _ h => by cases h) (fun _ h => by cases h) (fun h => by cases h) (fun h => by cases h) hk0 hk1 hkk0 hkk1 (by simp [refKind]) hsp hdp hn0
                    (by rw [nn sp hsp, nn n hn0]; show ¬ _ > ((arrV (aC 0) f.length (fun j => .int (f.getD j 0))).slots.size : Int); rw [arrV_size]; omega)
                    (by rw [nn dp hdp, nn n hn0]; show ¬ _ > ((arrV (aC 0) g.length (fun j => .int (g.getD j 0))).slots.size : Int); rw [arrV_size]; omega)
                    (fun vm₁ _ i hi => by
                      have e : (vp_cell (aC 0) (f.length, .inl (fun j => f.getD j 0))).slots.getD (sp.toNatClampNeg + i) .null = .int (f.getD (sp.toNatClampNeg + i) 0) := by
                        show (arrV (aC 0) f.length (fun j => .int (f.getD j 0))).slots.getD _ _ = _
                        rw [Array.getD_eq_getD_getElem?, arrV_read _ _ (by omega)]
                        rfl
                      refine ⟨?_, ?_⟩
                      · rw [e]; rfl
                      · rw [e]; exact trivial)
                    (g := F0 m pc ls (.int n :: .int dp :: .ref (base + (a - 8)) :: .int sp :: .ref (base + (b - 8)) :: [])) rfl (by rw [hml]; exact hl.1) (rest := []) rfl (by rw [hb]; exact hd) hf.2.1 (by show 2 * 0 + 0 + _ ≤ _; exact hf.2.2)
                  have e1 : copied (vp_cell (aC 0) (f.length, .inl (fun j => f.getD j 0))) (vp_cell (aC 0) (g.length, .inl (fun j => g.getD j 0))) sp dp n = vp_cell (aC 0) ((pm_cpy f g sp.toNatClampNeg dp.toNatClampNeg n.toNatClampNeg).length, .inl (fun j => (pm_cpy f g sp.toNatClampNeg dp.toNatClampNeg n.toNatClampNeg).getD j 0)) := by
                    rw [pm_len_cpy _ _ _ _ _ h4 h5, funext (pm_getD_cpy f g _ _ _ 0 h4 h5)]
                    exact va_copied (fun z => .int z) (aC 0) (aC 0) (fun j => f.getD j 0) (fun j => g.getD j 0) h4
                  rw [e1] at X' step
                  have hl1 : base + (a - 8) < H.size := (Array.getElem?_eq_some_iff.mp hc1).1
                  generalize hcell : vp_cell (aC 0) ((pm_cpy f g sp.toNatClampNeg dp.toNatClampNeg n.toNatClampNeg).length, Sum.inl (fun j => (pm_cpy f g sp.toNatClampNeg dp.toNatClampNeg n.toNatClampNeg).getD j 0)) = nc at X' step
                  have hheap : ((T.setVm vm').setCell (base + (a - 8)) nc).heap = H.setIfInBounds (base + (a - 8)) nc := by rw [← hT]; rfl
                  have oq : ∀ q : Nat, q ≠ base + (a - 8) → (H.setIfInBounds (base + (a - 8)) nc)[q]? = H[q]? := fun q hq => by simp [Array.getElem?_setIfInBounds, Ne.symm hq]
                  obtain ⟨t, w1, w2⟩ := ih _ _ _ _ _ _ hk _ _ ls hc hs hl (hP.set (H1 := H.setIfInBounds (base + (a - 8)) nc) a1 (show (H.setIfInBounds (base + (a - 8)) nc)[base + (a - 8)]? = some (vp_cell _ _) by rw [← hcell]; simp [Array.getElem?_setIfInBounds, hl1]) oq) (by rw [Array.size_setIfInBounds, hz, List.length_set]) ⟨by rw [Array.size_setIfInBounds]; exact hS.1, fun q g1 g2 => by
                      rw [oq q (fun e => g2 (by rw [e]; exact Nat.le_add_right _ _))]
                      exact hS.2.1 q g1 g2, fun q hq => by
                      rcases List.mem_append.mp hq with h | h
                      · exact hS.2.2 q h
                      · obtain ⟨z, -, hz⟩ := List.mem_map.mp h
                        rw [← hz]
                        exact Nat.le_add_right _ _⟩ _ hheap X'
                  exact ⟨t, step t w1, w2⟩
                · cases hk
              · cases hk
            · cases hk
          · cases hk
  · cases hk
theorem ps_obj (X : pm_X p R s m args meth c0 dC dI aC pre base xs mm) {ix : Nat} (hf : Cond.methodLink (kN (pm_o mm)) ix objectInit ∈ lw_gt ∧ 1 ≤ pm_f mm ∧ 20 ≤ pm_w mm) (hd : decode (pm_b mm) pc = .ok (.invokespecial ix, 3)) (ih : pm_IH p l e R s m args below meth c0 Q dC dI aC pre base mm k r) (hk : pm_obj k pc lv st h c sl = some r) : pm_W p l e R s m args below meth c0 Q dC dI aC pre base mm pc lv st h c sl := by
  obtain ⟨hx, hb, hml, hown, hts, hin, hK, hX, hb0, hb1, hN, rfl⟩ := X
  unfold pm_obj at hk
  split at hk
  · rename_i a
    intro H locs ls hc hs hl hP hz hS
    exact W.objInit hx hb hown (hts _ hf.1) (hts _ kO_inst) (hts _ kO_code) rfl (by rw [hml]; exact hl.1) rfl hd hf.2.1 (Nat.le_trans (by show 2 * 0 + 0 + 12 ≤ 20; omega) hf.2.2) (ih _ _ _ _ _ _ hk H locs ls hc hs hl hP hz hS)
  · cases hk
end New
end
section
/-! FROM THE PURE MACHINE TO THE MACHINE: calls, ends, one step, a frame, a call of any depth. -/
theorem pm_good {ws : List Cond} (h : ∀ w ∈ ws, w ∈ lw_gt) : GoodIn lw_gt ws := fun w hw => ⟨h w hw, good_of_word (List.mem_filter.mp (h w hw)).2⟩
def pm_Wd (dC : Nat → ClassId) (dI : Nat → Nat → Nat) (aC : Nat → ClassId) (pre : Nat → Nat) (base : Nat) (xs : List Int32) (h : pm_H) (U : State) : Prop := pm_P dC dI aC pre base h U.heap ∧ U.heap.size = base + h.length ∧ va_K (dC, dI) kC (pm_ty aC) U ∧ va_X (pre 0) xs.length (fun j => xs.getD j 0) U U.heap ∧ pm_N U ∧ pre 0 < base
def pm_Qc (dC : Nat → ClassId) (dI : Nat → Nat → Nat) (aC : Nat → ClassId) (pre : Nat → Nat) (base : Nat) (r : Option Value × pm_H) : Array Value → State → Outcome → State → Prop := fun _ st oc t => oc = .returned (r.1.map (pm_rv pre base)) ∧ (pm_P dC dI aC pre base r.2 t.heap ∧ t.heap.size = base + r.2.length) ∧ va_F (fun q => base ≤ q) st t
def pm_ws (m2 : pm_M) : List Cond := .code (pm_y m2) (pm_b m2) (pm_ml m2) (pm_rt m2) :: lw_gt
/-- the contract of one pure call -/
def pm_Met (l : Launch) (dC : Nat → ClassId) (dI : Nat → Nat → Nat) (aC : Nat → ClassId) (pre : Nat → Nat) (base : Nat) (xs : List Int32) (m2 : pm_M) (as : List Value) (h : pm_H) (r : Option Value × pm_H) : Prop := Met l (pm_y m2) (pm_ws m2) (pm_rm m2) (va_Pc (as.map (pm_rv pre base)) (pm_Wd dC dI aC pre base xs h)) (pm_Qc dC dI aC pre base r) (pm_c m2) (pm_s m2) (fun q => base ≤ q)
theorem pm_blind {av : List Value} {dC : Nat → ClassId} {dI : Nat → Nat → Nat} {aC : Nat → ClassId} {pre : Nat → Nat} {base : Nat} {xs : List Int32} {h : pm_H} : FrameBlind (va_Pc av (pm_Wd dC dI aC pre base xs h)) := fun a U g mk q => ⟨q.1, q.2.1, q.2.2.1, va_K.moved (u := U) (U := U.calling g mk a) (Vm.Alike.refl U.vm) q.2.2.2.1, va_X.moved (u := U) (U := U.calling g mk a) (Vm.Alike.refl U.vm) q.2.2.2.2.1, ⟨va_AO.moved (u := U) (U := U.calling g mk a) (Vm.Alike.refl U.vm) q.2.2.2.2.2.1.1, va_AO.moved (u := U) (U := U.calling g mk a) (Vm.Alike.refl U.vm) q.2.2.2.2.2.1.2.1, fun w hw => va_Nw.same (u := U) (U := U.calling g mk a) rfl rfl (q.2.2.2.2.2.1.2.2 w hw)⟩, q.2.2.2.2.2.2⟩
def pm_hd (m2 : pm_M) (n : Nat) : Prop := Cond.code (pm_y m2) (pm_b m2) (pm_ml m2) (pm_rt m2) ∈ lw_gt ∧ Cond.initialized (pm_y m2).cls ∈ lw_gt ∧ (pm_y m2).cls ≠ "java/lang/invoke/MethodHandle" ∧ (pm_y m2).cls ≠ "java/lang/invoke/VarHandle" ∧ (parseMethodDescriptor (pm_y m2).desc).map (fun d => d.parameters.length) = some n
def pm_rmok (mm m2 : pm_M) : Prop := pm_f m2 + 1 ≤ pm_f mm ∧ 8 + (pm_ml m2 + 11) + pm_w m2 ≤ pm_w mm
def pm_ok0 (mm : pm_M) (ix : Nat) (m2 : pm_M) : Prop := pm_hd m2 (pm_n m2 - 1) ∧ Cond.methodLink (kN (pm_o mm)) ix (pm_y m2) ∈ lw_gt ∧ Cond.instanceMethod (pm_y m2) ∈ lw_gt ∧ Cond.selects (pm_y m2).cls (pm_y m2) (pm_y m2) ∈ lw_gt ∧ kN (pm_o m2) = (pm_y m2).cls ∧ pm_o m2 < 8 ∧ pm_rmok mm m2
def pm_ok1 (mm : pm_M) (ix : Nat) (m2 : pm_M) : Prop := pm_hd m2 (pm_n m2 - 1) ∧ Cond.methodLink (kN (pm_o mm)) ix (pm_y m2) ∈ lw_gt ∧ Cond.instanceMethod (pm_y m2) ∈ lw_gt ∧ (pm_y m2).name = "<init>" ∧ pm_rt m2 = none ∧ pm_rmok mm m2
def pm_ok2 (mm : pm_M) (ix : Nat) (m2 : pm_M) : Prop := pm_hd m2 (pm_n m2) ∧ Cond.methodLink (kN (pm_o mm)) ix (pm_y m2) ∈ lw_gt ∧ Cond.static (pm_y m2) ∈ lw_gt ∧ pm_rmok mm m2
def pm_ok3 (mm : pm_M) (ix : Nat) (m2 : pm_M) : Prop := pm_hd m2 (pm_n m2) ∧ (kN (pm_o mm), ix, pm_y m2) ∈ pm_nest ∧ Cond.static (pm_y m2) ∈ lw_gt ∧ pm_rmok mm m2
def pm_okF (mm : pm_M) (ix ci f : Nat) : Prop := ci < 8 ∧ f < kM ci ∧ Cond.fieldLink (kN (pm_o mm)) ix (kN ci) (kT ci f).2.1 (kT ci f).2.2.1 ∈ lw_gt
def pm_okL (tab : Nat → Option pm_M) (mm : pm_M) (pc : Nat) (e : pm_E) : Prop := match e.1 with
  | .ldc ix => e.2.1 = 0 → Cond.constant (kN (pm_o mm)) ix (Int32.ofInt e.2.2.2) ∈ lw_gt
  | .ldc_w ix => e.2.1 = 0 → Cond.constant (kN (pm_o mm)) ix (Int32.ofInt e.2.2.2) ∈ lw_gt
  | .ldc2_w ix => Cond.constantLong (kN (pm_o mm)) ix (Int64.ofInt e.2.2.2) ∈ lw_gt
  | .ifCond _ off => (pc : Int) + off = (e.2.1 : Int)
  | .if_icmp _ off => (pc : Int) + off = (e.2.1 : Int)
  | .goto off => (pc : Int) + off = (e.2.1 : Int)
  | .getfield ix => pm_okF mm ix e.2.1 e.2.2.1
  | .putfield ix => pm_okF mm ix e.2.1 e.2.2.1 ∧ ((kT e.2.1 e.2.2.1).2.2.2 = false ∨ ((kT e.2.1 e.2.2.1).2.2.2 = true ∧ (pm_y mm).name = "<init>" ∧ kN e.2.1 = kN (pm_o mm)))
  | .new ix => e.2.1 < 8 ∧ Cond.classLink (kN (pm_o mm)) ix (kN e.2.1) ∈ lw_gt ∧ Cond.instantiable (kN e.2.1) (kM e.2.1) ∈ lw_gt ∧ Cond.initialized (kN e.2.1) ∈ lw_gt
  | .anewarray ix => (e.2.1 = 4 ∨ e.2.1 = 5) ∧ Cond.classLink (kN (pm_o mm)) ix (kN (pm_comp e.2.1)) ∈ lw_gt
  | .invokevirtual ix => e.2.2.1 = 0 → ∀ m2, tab e.2.1 = some m2 → pm_ok0 mm ix m2
  | .invokespecial ix => (e.2.2.1 = 1 → ∀ m2, tab e.2.1 = some m2 → pm_ok1 mm ix m2) ∧ (e.2.2.1 = 9 → Cond.methodLink (kN (pm_o mm)) ix objectInit ∈ lw_gt ∧ 1 ≤ pm_f mm ∧ 20 ≤ pm_w mm)
  | .invokestatic ix => (e.2.2.1 = 8 → Cond.methodLink (kN (pm_o mm)) ix arraycopyName ∈ lw_gt ∧ 1 ≤ pm_f mm ∧ 18 ≤ pm_w mm) ∧ (e.2.2.1 = 2 → ∀ m2, tab e.2.1 = some m2 → pm_ok2 mm ix m2) ∧ (e.2.2.1 = 3 → ∀ m2, tab e.2.1 = some m2 → pm_ok3 mm ix m2)
  | _ => True
def pm_okD (mm : pm_M) (pc : Nat) (i : Instr) : Prop := match i with
  | .tableswitch d lo hi offs => ∃ len, decode (pm_b mm) pc = .ok (.tableswitch d lo hi offs, len)
  | i => decode (pm_b mm) pc = .ok (i, pm_len i)
section Calls
variable {p : Program} {l : Launch} {e : Env} {R : Room} {s : State} {m : MethodId} {args : Array Value} {below : List Frame} {meth : Method} {c0 : Code} {Q : State → Prop} {dC : Nat → ClassId} {dI : Nat → Nat → Nat} {aC : Nat → ClassId} {pre : Nat → Nat} {base : Nat} {xs : List Int32} {mm : pm_M} {k : pm_K} {r : Option Value × pm_H} {pc : Nat} {lv : pm_L} {st : List Value} {h : pm_H} {c sl : Nat}
theorem pm_pre {U : State} {H : Heap} {locs : List Loc} {av av' : List Value} (hK : va_K (dC, dI) kC (pm_ty aC) s) (hX : va_X (pre 0) xs.length (fun j => xs.getD j 0) s s.heap) (hN : pm_N s) (hb0 : pre 0 < base) (hb1 : base ≤ s.heap.size) (hP : pm_P dC dI aC pre base h H) (hz : H.size = base + h.length) (hS : va_S (fun q => base ≤ q) s.heap H locs) (ha : av = av') (hU : U.heap = H) (hW : s.WarmedH U.vm) : va_Pc av (pm_Wd dC dI aC pre base xs h) av'.toArray U := by
  subst ha
  refine ⟨rfl, by rw [hU]; exact hP, by rw [hU]; exact hz, va_K.moved hW.alike hK, ?_, ⟨va_AO.moved hW.alike hN.1, va_AO.moved hW.alike hN.2.1, fun w hw => va_Nw.warmM hW (hN.2.2 w hw)⟩, hb0⟩
  refine va_X.moved hW.alike (va_X.kept hX ?_)
  rw [hU]
  exact hS.2.1 _ (Nat.lt_of_lt_of_le hb0 hb1) (Nat.not_le.mpr hb0)
theorem pm_back {m2 : pm_M} {rr : Option Value × pm_H} {rest st0 : List Value} {a : Array Value} {H : Heap} {locs : List Loc} {ls : Array Slot} (hr : va_Run p l e R s m args below meth c0 H locs c sl (pm_c m2) (pm_s m2) (F0 m pc ls st0) (rest.map (pm_rv pre base)) (pm_Qc dC dI aC pre base rr a) (fun q => base ≤ q)) (ih : pm_IH p l e R s m args below meth c0 Q dC dI aC pre base mm k r) (hk : k (pc + 3) lv (rr.1.toList ++ rest) rr.2 (c + pm_c m2) (sl + pm_s m2) = some r) (hc1 : c + pm_c m2 ≤ pm_c mm) (hs1 : sl + pm_s m2 ≤ pm_s mm) (hl : lv_has ls (pm_ml mm) (lv.map (pm_lv pre base))) (hS : va_S (fun q => base ≤ q) s.heap H locs) : W p l e R s m args below meth c0 H locs c sl Q (F0 m pc ls st0) := by
  intro T hT X
  obtain ⟨v, st₀, t, T', L, h0, X', hL, e1, e2, ⟨hv, ⟨hP1, hz1⟩, hz, hkp⟩, stp⟩ := hr T hT X
  have hv : v = rr.1.map (pm_rv pre base) := Outcome.returned.inj hv
  rw [h0] at hz hkp
  have hst : (rr.1.toList ++ rest).map (pm_rv pre base) = v.toList ++ rest.map (pm_rv pre base) := by
    rw [hv, List.map_append]
    congr 1
    cases rr.1 <;> rfl
  obtain ⟨t2, a1, b1⟩ := ih _ _ _ _ _ _ hk T'.heap (locs ++ L) ls hc1 hs1 hl (by rw [e1]; exact hP1) (by rw [e1]; exact hz1) ⟨Nat.le_trans hS.1 (by rw [e1]; exact hz), fun q h1 h2 => by rw [e1, hkp q (Nat.lt_of_lt_of_le h1 hS.1) h2]; exact hS.2.1 q h1 h2, fun q hq => by
      rcases List.mem_append.mp hq with h | h
      · exact hS.2.2 q h
      · exact hL q h⟩ T' rfl X'
  rw [hst] at a1
  exact ⟨t2, stp t2 a1, b1⟩
theorem pm_split {n : Nat} {a : Value} {as : List Value} (hrev : (st.take n).reverse = a :: as) : st = as.reverse ++ a :: st.drop n := by
  have e := congrArg List.reverse hrev
  rw [List.reverse_reverse, List.reverse_cons] at e
  calc st = st.take n ++ st.drop n := (List.take_append_drop n st).symm
    _ = as.reverse ++ a :: st.drop n := by rw [e, List.append_assoc]; rfl
theorem pm_splen {n : Nat} {a : Value} {as : List Value} (hn : n ≤ st.length) (hrev : (st.take n).reverse = a :: as) : as.length = n - 1 := by
  have e := congrArg List.length hrev
  rw [List.length_reverse, List.length_take, List.length_cons] at e
  omega
theorem ps_inv0 (X : pm_X p R s m args meth c0 dC dI aC pre base xs mm) {tab : Nat → Option pm_M} {big : Nat → List Value → pm_H → pm_R} {ix M2 : Nat} {m2 : pm_M} (htab : tab M2 = some m2) (hbig : ∀ as h r, big M2 as h = some r → pm_Met l dC dI aC pre base xs m2 as h r) (hf : pm_ok0 mm ix m2) (hd : decode (pm_b mm) pc = .ok (.invokevirtual ix, 3)) (ih : pm_IH p l e R s m args below meth c0 Q dC dI aC pre base mm k r) (hk : pm_inv k tab big mm M2 pc lv st h c sl = some r) : pm_W p l e R s m args below meth c0 Q dC dI aC pre base mm pc lv st h c sl := by
  obtain ⟨hx, hb, hml, hown, hts, hin, hK, hX, hb0, hb1, hN, rfl⟩ := X
  unfold pm_inv at hk
  rw [htab] at hk
  dsimp only at hk
  split at hk
  · rename_i hn
    split at hk
    · rename_i a as hrev
      split at hk
      · rename_i cj fs hcell
        split at hk
        · rename_i hcj
          unfold pm_call at hk
          split at hk
          · rename_i hcat
            split at hk
            · rename_i hc1
              split at hk
              · rename_i hs1
                split at hk
                · rename_i rv rh hbg
                  intro H locs ls hc hs hl hP hz hS
                  obtain ⟨h1, h2⟩ := pm_cell_eq pre base hcell
                  have hmap : st.map (pm_rv pre base) = (as.map (pm_rv pre base)).reverse ++ .ref (base + (a - 8)) :: (st.drop (pm_n m2)).map (pm_rv pre base) := by
                    conv => lhs; rw [pm_split hrev]
                    rw [List.map_append, List.map_reverse, pm_m1 h2]
                  rw [hmap]
                  have hrecv : ∃ cellB : Cell, H[base + (a - 8)]? = some cellB ∧ cellB.vm.isStatics = false ∧ s.vm.findClass (pm_y m2).cls = some cellB.cls := by
                    have hv := va_recv hK (hP.one h1) (kCi cj (by rw [hcj]; exact hf.2.2.2.2.2.1)) (q0 := 0) rfl
                    rw [← hf.2.2.2.2.1, ← hcj]
                    exact hv
                  exact pm_back (rr := (rv, rh)) (va_runV (C := (pm_y m2).cls) (As := as.map (pm_rv pre base)) (rest := (st.drop (pm_n m2)).map (pm_rv pre base)) ⟨hx, hb, hml, hown, hts⟩ (hbig _ _ _ hbg) (cwV (pm_n m2 - 1) hts (pm_good (fun w hw => by
                    rcases List.mem_append.mp hw with hw | hw
                    · simp only [List.mem_cons, List.not_mem_nil, or_false] at hw
                      rcases hw with rfl | rfl | rfl | rfl
                      · exact hf.2.1
                      · exact hf.2.2.1
                      · exact hf.2.2.2.1
                      · exact hf.1.2.1
                    · rcases List.mem_cons.mp hw with rfl | hw
                      · exact hf.1.1
                      · exact hw)) rfl rfl rfl ⟨rfl, hf.1.2.2⟩ hf.2.2.2.2.2.2) ⟨pm_blind, hrecv, fun U hU hW => pm_pre hK hX hN hb0 hb1 hP hz hS (pm_m1 h2) hU hW⟩ rfl (by rw [List.length_map]; exact pm_splen hn hrev) hl.1 rfl (lv_room (by rw [pm_cats]; exact hcat)) hd ⟨hc1, hs1⟩) ih hk hc1 hs1 hl hS
                · cases hk
              · cases hk
            · cases hk
          · cases hk
        · cases hk
      · cases hk
    · cases hk
  · cases hk
theorem ps_inv1 (X : pm_X p R s m args meth c0 dC dI aC pre base xs mm) {tab : Nat → Option pm_M} {big : Nat → List Value → pm_H → pm_R} {ix M2 : Nat} {m2 : pm_M} (htab : tab M2 = some m2) (hbig : ∀ as h r, big M2 as h = some r → pm_Met l dC dI aC pre base xs m2 as h r) (hf : pm_ok1 mm ix m2) (hd : decode (pm_b mm) pc = .ok (.invokespecial ix, 3)) (ih : pm_IH p l e R s m args below meth c0 Q dC dI aC pre base mm k r) (hk : pm_inv k tab big mm M2 pc lv st h c sl = some r) : pm_W p l e R s m args below meth c0 Q dC dI aC pre base mm pc lv st h c sl := by
  obtain ⟨hx, hb, hml, hown, hts, hin, hK, hX, hb0, hb1, hN, rfl⟩ := X
  unfold pm_inv at hk
  rw [htab] at hk
  dsimp only at hk
  split at hk
  · rename_i hn
    split at hk
    · rename_i a as hrev
      split at hk
      · rename_i cj fs hcell
        split at hk
        · rename_i hcj
          unfold pm_call at hk
          split at hk
          · rename_i hcat
            split at hk
            · rename_i hc1
              split at hk
              · rename_i hs1
                split at hk
                · rename_i rv rh hbg
                  intro H locs ls hc hs hl hP hz hS
                  obtain ⟨h1, h2⟩ := pm_cell_eq pre base hcell
                  have hmap : st.map (pm_rv pre base) = (as.map (pm_rv pre base)).reverse ++ .ref (base + (a - 8)) :: (st.drop (pm_n m2)).map (pm_rv pre base) := by
                    conv => lhs; rw [pm_split hrev]
                    rw [List.map_append, List.map_reverse, pm_m1 h2]
                  rw [hmap]
                  exact pm_back (rr := (rv, rh)) (va_runI (As := as.map (pm_rv pre base)) (rest := (st.drop (pm_n m2)).map (pm_rv pre base)) ⟨hx, hb, hml, hown, hts⟩ (hbig _ _ _ hbg) (cwI (pm_n m2 - 1) hts (pm_good (fun w hw => by
                    rcases List.mem_cons.mp hw with rfl | hw
                    · exact hf.1.1
                    · exact hw)) (by unfold pm_ws; rw [hf.2.2.2.2.1]) rfl rfl (hts _ hf.1.2.1) (hts _ hf.2.1) (hts _ hf.2.2.1) hf.2.2.2.1 hf.1.2.2 hf.2.2.2.2.2) ⟨pm_blind, fun U hU hW => pm_pre hK hX hN hb0 hb1 hP hz hS (pm_m1 h2) hU hW⟩ rfl (by rw [List.length_map]; exact pm_splen hn hrev) hl.1 rfl (lv_room (by rw [pm_cats]; exact hcat)) hd ⟨hc1, hs1⟩) ih hk hc1 hs1 hl hS
                · cases hk
              · cases hk
            · cases hk
          · cases hk
        · cases hk
      · cases hk
    · cases hk
  · cases hk
theorem ps_ins2 (X : pm_X p R s m args meth c0 dC dI aC pre base xs mm) {tab : Nat → Option pm_M} {big : Nat → List Value → pm_H → pm_R} {ix M2 : Nat} {m2 : pm_M} (htab : tab M2 = some m2) (hbig : ∀ as h r, big M2 as h = some r → pm_Met l dC dI aC pre base xs m2 as h r) (hf : pm_ok2 mm ix m2) (hd : decode (pm_b mm) pc = .ok (.invokestatic ix, 3)) (ih : pm_IH p l e R s m args below meth c0 Q dC dI aC pre base mm k r) (hk : pm_ins k tab big mm M2 pc lv st h c sl = some r) : pm_W p l e R s m args below meth c0 Q dC dI aC pre base mm pc lv st h c sl := by
  obtain ⟨hx, hb, hml, hown, hts, hin, hK, hX, hb0, hb1, hN, rfl⟩ := X
  unfold pm_ins at hk
  rw [htab] at hk
  dsimp only at hk
  split at hk
  · rename_i hn
    unfold pm_call at hk
    split at hk
    · rename_i hcat
      split at hk
      · rename_i hc1
        split at hk
        · rename_i hs1
          split at hk
          · rename_i rv rh hbg
            intro H locs ls hc hs hl hP hz hS
            have hmap : st.map (pm_rv pre base) = ((st.take (pm_n m2)).reverse.map (pm_rv pre base)).reverse ++ (st.drop (pm_n m2)).map (pm_rv pre base) := by
              conv => lhs; rw [← List.take_append_drop (pm_n m2) st]
              rw [List.map_append, List.map_reverse, List.reverse_reverse]
            rw [hmap]
            exact pm_back (rr := (rv, rh)) (va_runS (As := (st.take (pm_n m2)).reverse.map (pm_rv pre base)) (rest := (st.drop (pm_n m2)).map (pm_rv pre base)) ⟨hx, hb, hml, hown, hts⟩ (hbig _ _ _ hbg) (va_cwS (pm_n m2) hts (pm_good (fun w hw => by
              rcases List.mem_append.mp hw with hw | hw
              · simp only [List.mem_cons, List.not_mem_nil, or_false] at hw
                rcases hw with rfl | rfl | rfl
                · exact hf.2.1
                · exact hf.2.2.1
                · exact hf.1.2.1
              · rcases List.mem_cons.mp hw with rfl | hw
                · exact hf.1.1
                · exact hw)) rfl rfl rfl hf.1.2.2 hf.2.2.2) ⟨pm_blind, fun U hU hW => pm_pre hK hX hN hb0 hb1 hP hz hS rfl hU hW⟩ rfl (by rw [List.length_map, List.length_reverse, List.length_take]; omega) hl.1 rfl (lv_room (by rw [pm_cats]; exact hcat)) hd ⟨hc1, hs1⟩) ih hk hc1 hs1 hl hS
          · cases hk
        · cases hk
      · cases hk
    · cases hk
  · cases hk
theorem ps_ins3 (X : pm_X p R s m args meth c0 dC dI aC pre base xs mm) {tab : Nat → Option pm_M} {big : Nat → List Value → pm_H → pm_R} {ix M2 : Nat} {m2 : pm_M} (htab : tab M2 = some m2) (hbig : ∀ as h r, big M2 as h = some r → pm_Met l dC dI aC pre base xs m2 as h r) (hf : pm_ok3 mm ix m2) (hd : decode (pm_b mm) pc = .ok (.invokestatic ix, 3)) (ih : pm_IH p l e R s m args below meth c0 Q dC dI aC pre base mm k r) (hk : pm_ins k tab big mm M2 pc lv st h c sl = some r) : pm_W p l e R s m args below meth c0 Q dC dI aC pre base mm pc lv st h c sl := by
  obtain ⟨hx, hb, hml, hown, hts, hin, hK, hX, hb0, hb1, hN, rfl⟩ := X
  unfold pm_ins at hk
  rw [htab] at hk
  dsimp only at hk
  split at hk
  · rename_i hn
    unfold pm_call at hk
    split at hk
    · rename_i hcat
      split at hk
      · rename_i hc1
        split at hk
        · rename_i hs1
          split at hk
          · rename_i rv rh hbg
            intro H locs ls hc hs hl hP hz hS
            have hmap : st.map (pm_rv pre base) = ((st.take (pm_n m2)).reverse.map (pm_rv pre base)).reverse ++ (st.drop (pm_n m2)).map (pm_rv pre base) := by
              conv => lhs; rw [← List.take_append_drop (pm_n m2) st]
              rw [List.map_append, List.map_reverse, List.reverse_reverse]
            rw [hmap]
            exact pm_back (rr := (rv, rh)) (va_runSN (host := "MoodTown") (As := (st.take (pm_n m2)).reverse.map (pm_rv pre base)) (rest := (st.drop (pm_n m2)).map (pm_rv pre base)) ⟨hx, hb, hml, hown, hts⟩ (hbig _ _ _ hbg) ⟨va_cnB (pm_n m2) hts (pm_good (fun w hw => by
              rcases List.mem_cons.mp hw with rfl | hw
              · exact hf.1.1
              · exact hw)) rfl rfl rfl (hN.2.2 _ hf.2.1) (hts _ hf.1.2.1) hf.1.2.2 hf.2.2.2, hts _ hf.2.2.1, trivial⟩ ⟨pm_blind, fun U hU hW => pm_pre hK hX hN hb0 hb1 hP hz hS rfl hU hW⟩ rfl (by rw [List.length_map, List.length_reverse, List.length_take]; omega) hl.1 rfl (lv_room (by rw [pm_cats]; exact hcat)) hd ⟨hc1, hs1⟩) ih hk hc1 hs1 hl hS
          · cases hk
        · cases hk
      · cases hk
    · cases hk
  · cases hk
end Calls
end
section
/-! ONE STEP, A FRAME, A CALL: the pure machine is sound. -/
def pm_rok (mm : pm_M) (i : Instr) (st : List Value) (h : pm_H) (r : Option Value × pm_H) : Prop := (i = .ireturn ∧ pm_ret mm st h = some r) ∨ (i = .lreturn ∧ pm_retl mm st h = some r) ∨ (i = .areturn ∧ pm_reta mm st h = some r) ∨ (i = .return_ ∧ pm_retv mm st h = some r)
section Sound
variable {p : Program} {l : Launch} {e : Env} {R : Room} {s : State} {m : MethodId} {args : Array Value} {below : List Frame} {meth : Method} {c0 : Code} {Q : State → Prop} {dC : Nat → ClassId} {dI : Nat → Nat → Nat} {aC : Nat → ClassId} {pre : Nat → Nat} {base : Nat} {xs : List Int32} {mm : pm_M} {k : pm_K} {r : Option Value × pm_H} {pc : Nat} {lv : pm_L} {st : List Value} {h : pm_H} {c sl : Nat} {tab : Nat → Option pm_M} {big : Nat → List Value → pm_H → pm_R}
set_option maxHeartbeats 4000000 in
theorem pm_step_ok (X : pm_X p R s m args meth c0 dC dI aC pre base xs mm) {ee : pm_E} (hD : pm_okD mm pc ee.1) (hL : pm_okL tab mm pc ee) (hbig : ∀ M2 m2 as h r, tab M2 = some m2 → big M2 as h = some r → pm_Met l dC dI aC pre base xs m2 as h r) (ih : pm_IH p l e R s m args below meth c0 Q dC dI aC pre base mm k r) (hret : ∀ i pc lv st h c sl, pm_rok mm i st h r → decode (pm_b mm) pc = .ok (i, 1) → pm_W p l e R s m args below meth c0 Q dC dI aC pre base mm pc lv st h c sl) (hk : pm_step xs tab big mm k ee pc lv st h c sl = some r) : pm_W p l e R s m args below meth c0 Q dC dI aC pre base mm pc lv st h c sl := by
  obtain ⟨i, a, b, z⟩ := ee
  cases i with
  | iconst => exact ps_iconst X hD ih hk
  | bipush => exact ps_bipush X hD ih hk
  | sipush => exact ps_sipush X hD ih hk
  | lconst => exact ps_lconst X hD ih hk
  | iload_n => exact ps_iload_n X hD ih hk
  | iload => exact ps_iload X hD ih hk
  | lload_n => exact ps_lload_n X hD ih hk
  | lload => exact ps_lload X hD ih hk
  | aload_n => exact ps_aload_n X hD ih hk
  | aload => exact ps_aload X hD ih hk
  | istore_n => exact ps_istore_n X hD ih hk
  | istore => exact ps_istore X hD ih hk
  | lstore_n => exact ps_lstore_n X hD ih hk
  | lstore => exact ps_lstore X hD ih hk
  | astore_n => exact ps_astore_n X hD ih hk
  | astore => exact ps_astore X hD ih hk
  | iinc => exact ps_iinc X hD ih hk
  | ldc2_w => exact ps_ldc2 X hL hD ih hk
  | ifCond => exact ps_ifCond X hL hD ih hk
  | if_icmp => exact ps_if_icmp X hL hD ih hk
  | goto => exact ps_goto X hL hD ih hk
  | getfield => exact ps_getf X hL hD ih hk
  | putfield => exact ps_putf X hL.1 hL.2 hD ih hk
  | iaload => exact ps_iald X hD ih hk
  | baload => exact ps_bald X hD ih hk
  | laload => exact ps_lald X hD ih hk
  | aaload => exact ps_aald X hD ih hk
  | iastore => exact ps_iast X hD ih hk
  | bastore => exact ps_bast X hD ih hk
  | lastore => exact ps_last X hD ih hk
  | aastore => exact ps_aast X hD ih hk
  | arraylength => exact ps_alen X hD ih hk
  | new => exact ps_new X hL hD ih hk
  | newarray => exact ps_newa X hD ih hk
  | ireturn => exact hret .ireturn _ _ _ _ _ _ (Or.inl ⟨rfl, hk⟩) hD
  | lreturn => exact hret .lreturn _ _ _ _ _ _ (Or.inr (Or.inl ⟨rfl, hk⟩)) hD
  | areturn => exact hret .areturn _ _ _ _ _ _ (Or.inr (Or.inr (Or.inl ⟨rfl, hk⟩))) hD
  | return_ => exact hret .return_ _ _ _ _ _ _ (Or.inr (Or.inr (Or.inr ⟨rfl, hk⟩))) hD
  | iadd => exact ps_iadd X hD ih hk
  | isub => exact ps_isub X hD ih hk
  | imul => exact ps_imul X hD ih hk
  | iand => exact ps_iand X hD ih hk
  | ior => exact ps_ior X hD ih hk
  | ixor => exact ps_ixor X hD ih hk
  | ishl => exact ps_ishl X hD ih hk
  | ishr => exact ps_ishr X hD ih hk
  | iushr => exact ps_iushr X hD ih hk
  | idiv => exact ps_idiv X hD ih hk
  | irem => exact ps_irem X hD ih hk
  | ladd => exact ps_ladd X hD ih hk
  | lmul => exact ps_lmul X hD ih hk
  | ldiv => exact ps_ldiv X hD ih hk
  | lrem => exact ps_lrem X hD ih hk
  | ineg => exact ps_ineg X hD ih hk
  | i2b => exact ps_i2b X hD ih hk
  | i2s => exact ps_i2s X hD ih hk
  | i2l => exact ps_i2l X hD ih hk
  | lcmp => exact ps_lcmp X hD ih hk
  | dup => exact ps_dup X hD ih hk
  | dup2 => exact ps_dup2 X hD ih hk
  | pop => exact ps_pop X hD ih hk
  | ldc ix =>
    by_cases ha : a = 0
    · exact ps_ldc X (hL ha) hD ih ((if_pos ha).symm.trans hk)
    · exact absurd ((if_neg ha).symm.trans hk) (fun q => by cases q)
  | ldc_w ix =>
    by_cases ha : a = 0
    · exact ps_ldc_w X (hL ha) hD ih ((if_pos ha).symm.trans hk)
    · exact absurd ((if_neg ha).symm.trans hk) (fun q => by cases q)
  | tableswitch d lo hi offs =>
    obtain ⟨len, hD⟩ := hD
    exact ps_tsw X hD ih hk
  | anewarray ix =>
    rcases hL.1 with ha | ha
    · have ha : a = 4 := ha
      subst ha
      exact ps_anew (t := 4) (C := "MoodTown$Town") X ⟨rfl, hL.2, Or.inl rfl⟩ hD ih hk
    · have ha : a = 5 := ha
      subst ha
      exact ps_anew (t := 5) (C := "MoodTown$Sheet") X ⟨rfl, hL.2, Or.inr rfl⟩ hD ih hk
  | invokevirtual ix =>
    by_cases hb : b = 0
    · have hk1 : pm_inv k tab big mm a pc lv st h c sl = some r := (if_pos hb).symm.trans hk
      cases ht : tab a with
      | none => unfold pm_inv at hk1; rw [ht] at hk1; cases hk1
      | some m2 => exact ps_inv0 X ht (fun as h r q => hbig _ _ _ _ _ ht q) (hL hb m2 ht) hD ih hk1
    · exact absurd ((if_neg hb).symm.trans hk) (fun q => by cases q)
  | invokespecial ix =>
    by_cases hb : b = 1
    · have hk1 : pm_inv k tab big mm a pc lv st h c sl = some r := (if_pos hb).symm.trans hk
      cases ht : tab a with
      | none => unfold pm_inv at hk1; rw [ht] at hk1; cases hk1
      | some m2 => exact ps_inv1 X ht (fun as h r q => hbig _ _ _ _ _ ht q) (hL.1 hb m2 ht) hD ih hk1
    · have hk2 := (if_neg hb).symm.trans hk
      by_cases hb9 : b = 9
      · exact ps_obj X (hL.2 hb9) hD ih ((if_pos hb9).symm.trans hk2)
      · exact absurd ((if_neg hb9).symm.trans hk2) (fun q => by cases q)
  | invokestatic ix =>
    by_cases hb : b = 8
    · exact ps_copy X (hL.1 hb) hD ih ((if_pos hb).symm.trans hk)
    · have hk2 := (if_neg hb).symm.trans hk
      by_cases hb2 : b = 2 ∨ b = 3
      · have hk1 : pm_ins k tab big mm a pc lv st h c sl = some r := (if_pos hb2).symm.trans hk2
        cases ht : tab a with
        | none => unfold pm_ins at hk1; rw [ht] at hk1; cases hk1
        | some m2 =>
          rcases hb2 with hb2 | hb2
          · exact ps_ins2 X ht (fun as h r q => hbig _ _ _ _ _ ht q) (hL.2.1 hb2 m2 ht) hD ih hk1
          · exact ps_ins3 X ht (fun as h r q => hbig _ _ _ _ _ ht q) (hL.2.2 hb2 m2 ht) hD ih hk1
      · exact absurd ((if_neg hb2).symm.trans hk2) (fun q => by cases q)
  | _ => exact absurd (show (none : pm_R) = some r from hk) (fun q => by cases q)
theorem pm_run_ok (X : pm_X p R s m args meth c0 dC dI aC pre base xs mm) (hok : ∀ pc ee, pm_at mm pc = some ee → pm_okD mm pc ee.1 ∧ pm_okL tab mm pc ee) (hbig : ∀ M2 m2 as h r, tab M2 = some m2 → big M2 as h = some r → pm_Met l dC dI aC pre base xs m2 as h r) (hret : ∀ i pc lv st h c sl, pm_rok mm i st h r → decode (pm_b mm) pc = .ok (i, 1) → pm_W p l e R s m args below meth c0 Q dC dI aC pre base mm pc lv st h c sl) : ∀ n, pm_IH p l e R s m args below meth c0 Q dC dI aC pre base mm (pm_run xs tab big mm n) r := by
  intro n
  induction n with
  | zero => intro pc lv st h c sl hk; cases hk
  | succ n ih =>
    intro pc lv st h c sl hk
    have hk1 : pm_next xs tab big mm (pm_run xs tab big mm n) pc lv st h c sl = some r := hk
    unfold pm_next at hk1
    split at hk1
    · rename_i ee he
      exact pm_step_ok X (hok _ _ he).1 (hok _ _ he).2 hbig ih hret hk1
    · cases hk1
end Sound
theorem pm_args (pre : Nat → Nat) (base : Nat) : ∀ (as : List Value) (i : Nat), lv_args i (as.map (pm_rv pre base)) = (lv_args i as).map (pm_lv pre base)
  | [], _ => rfl
  | v :: as, i => by
    show (i, pm_rv pre base v) :: lv_args (if (pm_rv pre base v).category = 2 then i + 2 else i + 1) (as.map (pm_rv pre base)) = _
    rw [pm_cat, pm_args pre base as]
    rfl
theorem pm_sl (pre : Nat → Nat) (base : Nat) : ∀ (as : List Value), (lg_sl (as.map (pm_rv pre base))).length = pm_words as
  | [] => rfl
  | v :: as => by
    have ih := pm_sl pre base as
    unfold lg_sl at ih ⊢
    rw [List.map_cons, List.flatMap_cons, List.length_append, ih, pm_cat]
    unfold pm_words
    rw [List.map_cons, List.sum_cons]
    congr 1
    cases v <;> rfl
/-- what is asked of the table of methods -/
def pm_tabok (tab : Nat → Option pm_M) : Prop := ∀ M mm, tab M = some mm → plainFor (pm_y mm) = true ∧ kN (pm_o mm) = (pm_y mm).cls ∧ ∀ pc ee, pm_at mm pc = some ee → pm_okD mm pc ee.1 ∧ pm_okL tab mm pc ee
set_option maxHeartbeats 4000000 in
theorem pm_big_ok (l : Launch) (dC : Nat → ClassId) (dI : Nat → Nat → Nat) (aC : Nat → ClassId) (pre : Nat → Nat) (base : Nat) (xs : List Int32) {tab : Nat → Option pm_M} (htab : pm_tabok tab) (N : Nat) : ∀ (d M : Nat) (mm : pm_M) (as : List Value) (h : pm_H) (r : Option Value × pm_H), tab M = some mm → pm_big xs tab N d M as h = some r → pm_Met l dC dI aC pre base xs mm as h r := by
  intro d
  induction d with
  | zero => intro M mm as h r _ hk; cases hk
  | succ d ih =>
    intro M mm as h r hM hk
    obtain ⟨hplain, hown0, hok⟩ := htab M mm hM
    have hk1 : (match tab M with
      | some mm => if pm_words as ≤ pm_ml mm then (if as.length = pm_n mm then pm_run xs tab (pm_big xs tab N d) mm N 0 (lv_args 0 as) [] h 0 0 else none) else none
      | none => none) = some r := hk
    rw [hM] at hk1
    dsimp only at hk1
    split at hk1
    · rename_i hw
      split at hk1
      · refine va_MetF (cc := pm_b mm) (maxL := pm_ml mm) (ret := pm_rt mm) hplain rfl ?_
        intro p e s m args below meth c0 s₁ B hml hv
        obtain ⟨rfl, hP, hz, hK, hX, hN, hb0⟩ := hv
        have hr := B.returns
        have hlocks := B.notSynchronized
        have hts := atoms_spec (ws := pm_ws mm) B.pre
        have hown : s.vm.findClass (kN (pm_o mm)) = some m.cls := by rw [hown0]; exact findClass_of_methodNamed B.named
        have X : pm_X p (pm_rm mm) s m (as.map (pm_rv pre base)).toArray meth c0 dC dI aC pre base xs mm := ⟨B.exec, B.bytes, hml, hown, fun w hw => hts w (List.mem_cons_of_mem _ hw), fun hi => (name_of_methodNamed B.named B.method).1.trans hi, hK, hX, hb0, by omega, hN, rfl⟩
        have hret : ∀ i pc lv st h c sl, pm_rok mm i st h r → decode (pm_b mm) pc = .ok (i, 1) → pm_W p l e (pm_rm mm) s m (as.map (pm_rv pre base)).toArray below meth c0 (MQ below (pm_Qc dC dI aC pre base r) (as.map (pm_rv pre base)).toArray s (pm_c mm) (pm_s mm) (fun q => base ≤ q)) dC dI aC pre base mm pc lv st h c sl := by
          intro i pc lv st h c sl hro hd H locs ls hc hs hl hP hz hS
          refine W.widen hc hs ?_
          rcases hro with ⟨rfl, hro⟩ | ⟨rfl, hro⟩ | ⟨rfl, hro⟩ | ⟨rfl, hro⟩
          · unfold pm_ret at hro
            split at hro
            · rename_i v ty hty
              split at hro
              · rename_i hfit
                cases hro
                exact W.zret B.exec B.bytes (hr.trans hty) (pm_fit_ok (pre := pre) (base := base) hfit).1 (fun t ht hW => ⟨rfl, ⟨by rw [ht]; exact hP, by rw [ht]; exact hz⟩, hS.F ht⟩) hS.2.2 hd
              · cases hro
            · cases hro
          · unfold pm_retl at hro
            split at hro
            · rename_i v hty
              cases hro
              exact W.lret B.exec B.bytes (hr.trans hty) (fun t ht hW => ⟨rfl, ⟨by rw [ht]; exact hP, by rw [ht]; exact hz⟩, hS.F ht⟩) hS.2.2 hd
            · cases hro
          · unfold pm_reta at hro
            split at hro
            · rename_i v nm hty
              cases hro
              exact W.aret B.exec B.bytes (hr.trans hty) (Or.inl ⟨_, rfl⟩) (Or.inr ⟨_, rfl⟩) (fun t ht hW => ⟨rfl, ⟨by rw [ht]; exact hP, by rw [ht]; exact hz⟩, hS.F ht⟩) hS.2.2 hd
            · cases hro
          · unfold pm_retv at hro
            split at hro
            · rename_i hty
              cases hro
              exact W.vret B.exec B.bytes (hr.trans hty) (fun t ht hW => ⟨rfl, ⟨by rw [ht]; exact hP, by rw [ht]; exact hz⟩, hS.F ht⟩) hS.2.2 hd
            · cases hro
        have hl := lv_entry (as.map (pm_rv pre base)) (n := pm_ml mm) (by rw [pm_sl]; exact hw)
        rw [lg_entry_eq]
        rw [pm_args] at hl
        exact pm_run_ok X hok (fun M2 m2 as h r ht hb => ih M2 m2 as h r ht hb) hret N _ _ _ _ _ _ hk1 s.heap [] _ (Nat.zero_le _) (Nat.zero_le _) hl hP hz va_S.rf
      · cases hk1
    · cases hk1
end
section
/-! THE METHODS as the pure machine has them (printed by wip/gen/gen09.py from the code bytes of the Statement). -/
def l_0 : List (Option pm_E) := [some (.new 7, 6, 0, 0), none, none, some (.dup, 0, 0, 0), some (.invokespecial 9, 1, 1, 0), none, none, some (.astore_n 1, 0, 0, 0), some (.new 10, 7, 0, 0), none, none, some (.dup, 0, 0, 0), some (.invokespecial 12, 145, 1, 0), none, none, some (.astore_n 2, 0, 0, 0)]
def l_1 : List (Option pm_E) := [some (.iconst 0, 0, 0, 0), some (.istore_n 3, 0, 0, 0), some (.iload_n 3, 0, 0, 0), some (.aload_n 0, 0, 0, 0), some (.arraylength, 0, 0, 0), some (.iconst 5, 0, 0, 0), some (.isub, 0, 0, 0), some (.if_icmp .gt 1317, 1340, 0, 0), none, none, some (.aload_n 0, 0, 0, 0), some (.iload_n 3, 0, 0, 0), some (.iaload, 0, 0, 0), some (.bipush 63, 0, 0, 0), none, some (.iand, 0, 0, 0)]
def l_2 : List (Option pm_E) := [some (.tableswitch 1302 0 38 #[172, 195, 218, 231, 244, 267, 300, 323, 356, 389, 438, 471, 520, 553, 576, 609, 632, 645, 658, 681, 724, 737, 760, 793, 806, 829, 882, 925, 969, 1002, 1025, 1048, 1081, 1104, 1127, 1170, 1213, 1266, 1279], 0, 0, 0)]
def l_3 : List (Option pm_E) := []
def l_4 : List (Option pm_E) := []
def l_5 : List (Option pm_E) := []
def l_6 : List (Option pm_E) := []
def l_7 : List (Option pm_E) := []
def l_8 : List (Option pm_E) := []
def l_9 : List (Option pm_E) := []
def l_10 : List (Option pm_E) := []
def l_11 : List (Option pm_E) := []
def l_12 : List (Option pm_E) := [none, none, none, none, none, none, none, none, none, none, none, none, some (.aload_n 1, 0, 0, 0), some (.aload_n 0, 0, 0, 0), some (.iload_n 3, 0, 0, 0), some (.iconst 1, 0, 0, 0)]
def l_13 : List (Option pm_E) := [some (.iadd, 0, 0, 0), some (.iaload, 0, 0, 0), some (.invokevirtual 13, 10, 0, 1), none, none, some (.aload_n 2, 0, 0, 0), some (.aload_n 0, 0, 0, 0), some (.iload_n 3, 0, 0, 0), some (.iconst 1, 0, 0, 0), some (.iadd, 0, 0, 0), some (.iaload, 0, 0, 0), some (.invokevirtual 17, 148, 0, 1), none, none, some (.if_icmp .eq 1112, 1334, 0, 0)]
def l_14 : List (Option pm_E) := [none, some (.iconst 0, 0, 0, 0), some (.ireturn, 0, 0, 0), some (.aload_n 1, 0, 0, 0), some (.aload_n 0, 0, 0, 0), some (.iload_n 3, 0, 0, 0), some (.iconst 1, 0, 0, 0), some (.iadd, 0, 0, 0), some (.iaload, 0, 0, 0), some (.invokevirtual 18, 12, 0, 1), none, none, some (.aload_n 2, 0, 0, 0), some (.aload_n 0, 0, 0, 0), some (.iload_n 3, 0, 0, 0), some (.iconst 1, 0, 0, 0)]
def l_15 : List (Option pm_E) := [some (.iadd, 0, 0, 0), some (.iaload, 0, 0, 0), some (.invokevirtual 21, 150, 0, 1), none, none, some (.if_icmp .eq 1089, 1334, 0, 0), none, none, some (.iconst 0, 0, 0, 0), some (.ireturn, 0, 0, 0), some (.aload_n 1, 0, 0, 0), some (.invokevirtual 22, 13, 0, 0), none, none, some (.aload_n 2, 0, 0, 0), some (.invokevirtual 26, 151, 0, 0)]
def l_16 : List (Option pm_E) := [none, none, some (.if_icmp .eq 1076, 1334, 0, 0), none, none, some (.iconst 0, 0, 0, 0), some (.ireturn, 0, 0, 0), some (.aload_n 1, 0, 0, 0), some (.invokevirtual 27, 43, 0, 0), none, none, some (.aload_n 2, 0, 0, 0), some (.invokevirtual 30, 166, 0, 0), none, none, some (.if_icmp .eq 1063, 1334, 0, 0)]
def l_17 : List (Option pm_E) := [none, none, some (.iconst 0, 0, 0, 0), some (.ireturn, 0, 0, 0), some (.aload_n 1, 0, 0, 0), some (.aload_n 0, 0, 0, 0), some (.iload_n 3, 0, 0, 0), some (.iconst 1, 0, 0, 0), some (.iadd, 0, 0, 0), some (.iaload, 0, 0, 0), some (.invokevirtual 31, 44, 0, 1), none, none, some (.aload_n 2, 0, 0, 0), some (.aload_n 0, 0, 0, 0), some (.iload_n 3, 0, 0, 0)]
def l_18 : List (Option pm_E) := [some (.iconst 1, 0, 0, 0), some (.iadd, 0, 0, 0), some (.iaload, 0, 0, 0), some (.invokevirtual 34, 167, 0, 1), none, none, some (.if_icmp .eq 1040, 1334, 0, 0), none, none, some (.iconst 0, 0, 0, 0), some (.ireturn, 0, 0, 0), some (.aload_n 1, 0, 0, 0), some (.aload_n 0, 0, 0, 0), some (.iload_n 3, 0, 0, 0), some (.iconst 1, 0, 0, 0), some (.iadd, 0, 0, 0)]
def l_19 : List (Option pm_E) := [some (.iaload, 0, 0, 0), some (.aload_n 0, 0, 0, 0), some (.iload_n 3, 0, 0, 0), some (.iconst 2, 0, 0, 0), some (.iadd, 0, 0, 0), some (.iaload, 0, 0, 0), some (.invokevirtual 35, 45, 0, 2), none, none, some (.aload_n 2, 0, 0, 0), some (.aload_n 0, 0, 0, 0), some (.iload_n 3, 0, 0, 0), some (.iconst 1, 0, 0, 0), some (.iadd, 0, 0, 0), some (.iaload, 0, 0, 0), some (.aload_n 0, 0, 0, 0)]
def l_20 : List (Option pm_E) := [some (.iload_n 3, 0, 0, 0), some (.iconst 2, 0, 0, 0), some (.iadd, 0, 0, 0), some (.iaload, 0, 0, 0), some (.invokevirtual 39, 168, 0, 2), none, none, some (.if_icmp .eq 1007, 1334, 0, 0), none, none, some (.iconst 0, 0, 0, 0), some (.ireturn, 0, 0, 0), some (.aload_n 1, 0, 0, 0), some (.aload_n 0, 0, 0, 0), some (.iload_n 3, 0, 0, 0), some (.iconst 1, 0, 0, 0)]
def l_21 : List (Option pm_E) := [some (.iadd, 0, 0, 0), some (.iaload, 0, 0, 0), some (.invokevirtual 40, 46, 0, 1), none, none, some (.aload_n 2, 0, 0, 0), some (.aload_n 0, 0, 0, 0), some (.iload_n 3, 0, 0, 0), some (.iconst 1, 0, 0, 0), some (.iadd, 0, 0, 0), some (.iaload, 0, 0, 0), some (.invokevirtual 43, 170, 0, 1), none, none, some (.if_icmp .eq 984, 1334, 0, 0)]
def l_22 : List (Option pm_E) := [none, some (.iconst 0, 0, 0, 0), some (.ireturn, 0, 0, 0), some (.aload_n 1, 0, 0, 0), some (.aload_n 0, 0, 0, 0), some (.iload_n 3, 0, 0, 0), some (.iconst 1, 0, 0, 0), some (.iadd, 0, 0, 0), some (.iaload, 0, 0, 0), some (.aload_n 0, 0, 0, 0), some (.iload_n 3, 0, 0, 0), some (.iconst 2, 0, 0, 0), some (.iadd, 0, 0, 0), some (.iaload, 0, 0, 0), some (.invokevirtual 44, 47, 0, 2)]
def l_23 : List (Option pm_E) := [none, some (.aload_n 2, 0, 0, 0), some (.aload_n 0, 0, 0, 0), some (.iload_n 3, 0, 0, 0), some (.iconst 1, 0, 0, 0), some (.iadd, 0, 0, 0), some (.iaload, 0, 0, 0), some (.aload_n 0, 0, 0, 0), some (.iload_n 3, 0, 0, 0), some (.iconst 2, 0, 0, 0), some (.iadd, 0, 0, 0), some (.iaload, 0, 0, 0), some (.invokevirtual 47, 174, 0, 2), none, none, some (.if_icmp .eq 951, 1334, 0, 0)]
def l_24 : List (Option pm_E) := [none, none, some (.iconst 0, 0, 0, 0), some (.ireturn, 0, 0, 0), some (.aload_n 1, 0, 0, 0), some (.aload_n 0, 0, 0, 0), some (.iload_n 3, 0, 0, 0), some (.iconst 1, 0, 0, 0), some (.iadd, 0, 0, 0), some (.iaload, 0, 0, 0), some (.aload_n 0, 0, 0, 0), some (.iload_n 3, 0, 0, 0), some (.iconst 2, 0, 0, 0), some (.iadd, 0, 0, 0), some (.iaload, 0, 0, 0), some (.invokevirtual 48, 49, 0, 2)]
def l_25 : List (Option pm_E) := [none, none, some (.aload_n 2, 0, 0, 0), some (.aload_n 0, 0, 0, 0), some (.iload_n 3, 0, 0, 0), some (.iconst 1, 0, 0, 0), some (.iadd, 0, 0, 0), some (.iaload, 0, 0, 0), some (.aload_n 0, 0, 0, 0), some (.iload_n 3, 0, 0, 0), some (.iconst 2, 0, 0, 0), some (.iadd, 0, 0, 0), some (.iaload, 0, 0, 0), some (.invokevirtual 51, 176, 0, 2)]
def l_26 : List (Option pm_E) := [some (.if_icmp .eq 918, 1334, 0, 0), none, none, some (.iconst 0, 0, 0, 0), some (.ireturn, 0, 0, 0), some (.aload_n 1, 0, 0, 0), some (.aload_n 0, 0, 0, 0), some (.iload_n 3, 0, 0, 0), some (.iconst 1, 0, 0, 0), some (.iadd, 0, 0, 0), some (.iaload, 0, 0, 0), some (.aload_n 0, 0, 0, 0), some (.iload_n 3, 0, 0, 0), some (.iconst 2, 0, 0, 0), some (.iadd, 0, 0, 0), some (.iaload, 0, 0, 0)]
def l_27 : List (Option pm_E) := [some (.ifCond .eq 7, 439, 0, 0), none, none, some (.iconst 1, 0, 0, 0), some (.goto 4, 440, 0, 0), none, none, some (.iconst 0, 0, 0, 0), some (.invokevirtual 52, 51, 0, 2), none, none, some (.aload_n 2, 0, 0, 0), some (.aload_n 0, 0, 0, 0), some (.iload_n 3, 0, 0, 0), some (.iconst 1, 0, 0, 0), some (.iadd, 0, 0, 0)]
def l_28 : List (Option pm_E) := [some (.iaload, 0, 0, 0), some (.aload_n 0, 0, 0, 0), some (.iload_n 3, 0, 0, 0), some (.iconst 2, 0, 0, 0), some (.iadd, 0, 0, 0), some (.iaload, 0, 0, 0), some (.ifCond .eq 7, 461, 0, 0), none, none, some (.iconst 1, 0, 0, 0), some (.goto 4, 462, 0, 0), none, none, some (.iconst 0, 0, 0, 0), some (.invokevirtual 56, 178, 0, 2)]
def l_29 : List (Option pm_E) := [none, some (.if_icmp .eq 869, 1334, 0, 0), none, none, some (.iconst 0, 0, 0, 0), some (.ireturn, 0, 0, 0), some (.aload_n 1, 0, 0, 0), some (.aload_n 0, 0, 0, 0), some (.iload_n 3, 0, 0, 0), some (.iconst 1, 0, 0, 0), some (.iadd, 0, 0, 0), some (.iaload, 0, 0, 0), some (.aload_n 0, 0, 0, 0), some (.iload_n 3, 0, 0, 0), some (.iconst 2, 0, 0, 0), some (.iadd, 0, 0, 0)]
def l_30 : List (Option pm_E) := [some (.iaload, 0, 0, 0), some (.invokevirtual 57, 52, 0, 2), none, none, some (.aload_n 2, 0, 0, 0), some (.aload_n 0, 0, 0, 0), some (.iload_n 3, 0, 0, 0), some (.iconst 1, 0, 0, 0), some (.iadd, 0, 0, 0), some (.iaload, 0, 0, 0), some (.aload_n 0, 0, 0, 0), some (.iload_n 3, 0, 0, 0), some (.iconst 2, 0, 0, 0), some (.iadd, 0, 0, 0), some (.iaload, 0, 0, 0), some (.invokevirtual 60, 179, 0, 2)]
def l_31 : List (Option pm_E) := [none, none, some (.if_icmp .eq 836, 1334, 0, 0), none, none, some (.iconst 0, 0, 0, 0), some (.ireturn, 0, 0, 0), some (.aload_n 1, 0, 0, 0), some (.aload_n 0, 0, 0, 0), some (.iload_n 3, 0, 0, 0), some (.iconst 1, 0, 0, 0), some (.iadd, 0, 0, 0), some (.iaload, 0, 0, 0), some (.aload_n 0, 0, 0, 0), some (.iload_n 3, 0, 0, 0), some (.iconst 2, 0, 0, 0)]
def l_32 : List (Option pm_E) := [some (.iadd, 0, 0, 0), some (.iaload, 0, 0, 0), some (.ifCond .eq 7, 521, 0, 0), none, none, some (.iconst 1, 0, 0, 0), some (.goto 4, 522, 0, 0), none, none, some (.iconst 0, 0, 0, 0), some (.invokevirtual 61, 53, 0, 2), none, none, some (.aload_n 2, 0, 0, 0), some (.aload_n 0, 0, 0, 0), some (.iload_n 3, 0, 0, 0)]
def l_33 : List (Option pm_E) := [some (.iconst 1, 0, 0, 0), some (.iadd, 0, 0, 0), some (.iaload, 0, 0, 0), some (.aload_n 0, 0, 0, 0), some (.iload_n 3, 0, 0, 0), some (.iconst 2, 0, 0, 0), some (.iadd, 0, 0, 0), some (.iaload, 0, 0, 0), some (.ifCond .eq 7, 543, 0, 0), none, none, some (.iconst 1, 0, 0, 0), some (.goto 4, 544, 0, 0), none, none, some (.iconst 0, 0, 0, 0)]
def l_34 : List (Option pm_E) := [some (.invokevirtual 64, 180, 0, 2), none, none, some (.if_icmp .eq 787, 1334, 0, 0), none, none, some (.iconst 0, 0, 0, 0), some (.ireturn, 0, 0, 0), some (.aload_n 1, 0, 0, 0), some (.aload_n 0, 0, 0, 0), some (.iload_n 3, 0, 0, 0), some (.iconst 1, 0, 0, 0), some (.iadd, 0, 0, 0), some (.iaload, 0, 0, 0), some (.aload_n 0, 0, 0, 0), some (.iload_n 3, 0, 0, 0)]
def l_35 : List (Option pm_E) := [some (.iconst 2, 0, 0, 0), some (.iadd, 0, 0, 0), some (.iaload, 0, 0, 0), some (.invokevirtual 65, 54, 0, 2), none, none, some (.aload_n 2, 0, 0, 0), some (.aload_n 0, 0, 0, 0), some (.iload_n 3, 0, 0, 0), some (.iconst 1, 0, 0, 0), some (.iadd, 0, 0, 0), some (.iaload, 0, 0, 0), some (.aload_n 0, 0, 0, 0), some (.iload_n 3, 0, 0, 0), some (.iconst 2, 0, 0, 0), some (.iadd, 0, 0, 0)]
def l_36 : List (Option pm_E) := [some (.iaload, 0, 0, 0), some (.invokevirtual 68, 181, 0, 2), none, none, some (.if_icmp .eq 754, 1334, 0, 0), none, none, some (.iconst 0, 0, 0, 0), some (.ireturn, 0, 0, 0), some (.aload_n 1, 0, 0, 0), some (.aload_n 0, 0, 0, 0), some (.iload_n 3, 0, 0, 0), some (.iconst 1, 0, 0, 0), some (.iadd, 0, 0, 0), some (.iaload, 0, 0, 0), some (.invokevirtual 69, 55, 0, 1)]
def l_37 : List (Option pm_E) := [none, none, some (.aload_n 2, 0, 0, 0), some (.aload_n 0, 0, 0, 0), some (.iload_n 3, 0, 0, 0), some (.iconst 1, 0, 0, 0), some (.iadd, 0, 0, 0), some (.iaload, 0, 0, 0), some (.invokevirtual 72, 182, 0, 1), none, none, some (.if_icmp .eq 731, 1334, 0, 0), none, none, some (.iconst 0, 0, 0, 0), some (.ireturn, 0, 0, 0)]
def l_38 : List (Option pm_E) := [some (.aload_n 1, 0, 0, 0), some (.aload_n 0, 0, 0, 0), some (.iload_n 3, 0, 0, 0), some (.iconst 1, 0, 0, 0), some (.iadd, 0, 0, 0), some (.iaload, 0, 0, 0), some (.aload_n 0, 0, 0, 0), some (.iload_n 3, 0, 0, 0), some (.iconst 2, 0, 0, 0), some (.iadd, 0, 0, 0), some (.iaload, 0, 0, 0), some (.invokevirtual 73, 56, 0, 2), none, none, some (.aload_n 2, 0, 0, 0), some (.aload_n 0, 0, 0, 0)]
def l_39 : List (Option pm_E) := [some (.iload_n 3, 0, 0, 0), some (.iconst 1, 0, 0, 0), some (.iadd, 0, 0, 0), some (.iaload, 0, 0, 0), some (.aload_n 0, 0, 0, 0), some (.iload_n 3, 0, 0, 0), some (.iconst 2, 0, 0, 0), some (.iadd, 0, 0, 0), some (.iaload, 0, 0, 0), some (.invokevirtual 76, 183, 0, 2), none, none, some (.if_icmp .eq 698, 1334, 0, 0), none, none, some (.iconst 0, 0, 0, 0)]
def l_40 : List (Option pm_E) := [some (.ireturn, 0, 0, 0), some (.aload_n 1, 0, 0, 0), some (.aload_n 0, 0, 0, 0), some (.iload_n 3, 0, 0, 0), some (.iconst 1, 0, 0, 0), some (.iadd, 0, 0, 0), some (.iaload, 0, 0, 0), some (.invokevirtual 77, 65, 0, 1), none, none, some (.aload_n 2, 0, 0, 0), some (.aload_n 0, 0, 0, 0), some (.iload_n 3, 0, 0, 0), some (.iconst 1, 0, 0, 0), some (.iadd, 0, 0, 0), some (.iaload, 0, 0, 0)]
def l_41 : List (Option pm_E) := [some (.invokevirtual 80, 188, 0, 1), none, none, some (.if_icmp .eq 675, 1334, 0, 0), none, none, some (.iconst 0, 0, 0, 0), some (.ireturn, 0, 0, 0), some (.aload_n 1, 0, 0, 0), some (.invokevirtual 81, 66, 0, 0), none, none, some (.aload_n 2, 0, 0, 0), some (.invokevirtual 84, 190, 0, 0)]
def l_42 : List (Option pm_E) := [some (.if_icmp .eq 662, 1334, 0, 0), none, none, some (.iconst 0, 0, 0, 0), some (.ireturn, 0, 0, 0), some (.aload_n 1, 0, 0, 0), some (.invokevirtual 85, 74, 0, 0), none, none, some (.aload_n 2, 0, 0, 0), some (.invokevirtual 88, 195, 0, 0), none, none, some (.if_icmp .eq 649, 1334, 0, 0)]
def l_43 : List (Option pm_E) := [some (.iconst 0, 0, 0, 0), some (.ireturn, 0, 0, 0), some (.aload_n 1, 0, 0, 0), some (.aload_n 0, 0, 0, 0), some (.iload_n 3, 0, 0, 0), some (.iconst 1, 0, 0, 0), some (.iadd, 0, 0, 0), some (.iaload, 0, 0, 0), some (.invokevirtual 89, 75, 0, 1), none, none, some (.aload_n 2, 0, 0, 0), some (.aload_n 0, 0, 0, 0), some (.iload_n 3, 0, 0, 0), some (.iconst 1, 0, 0, 0), some (.iadd, 0, 0, 0)]
def l_44 : List (Option pm_E) := [some (.iaload, 0, 0, 0), some (.invokevirtual 92, 196, 0, 1), none, none, some (.if_icmp .eq 626, 1334, 0, 0), none, none, some (.iconst 0, 0, 0, 0), some (.ireturn, 0, 0, 0), some (.aload_n 1, 0, 0, 0), some (.aload_n 0, 0, 0, 0), some (.iload_n 3, 0, 0, 0), some (.iconst 1, 0, 0, 0), some (.iadd, 0, 0, 0), some (.iaload, 0, 0, 0), some (.aload_n 0, 0, 0, 0)]
def l_45 : List (Option pm_E) := [some (.iload_n 3, 0, 0, 0), some (.iconst 2, 0, 0, 0), some (.iadd, 0, 0, 0), some (.iaload, 0, 0, 0), some (.aload_n 0, 0, 0, 0), some (.iload_n 3, 0, 0, 0), some (.iconst 3, 0, 0, 0), some (.iadd, 0, 0, 0), some (.iaload, 0, 0, 0), some (.invokevirtual 93, 79, 0, 3), none, none, some (.aload_n 2, 0, 0, 0), some (.aload_n 0, 0, 0, 0), some (.iload_n 3, 0, 0, 0), some (.iconst 1, 0, 0, 0)]
def l_46 : List (Option pm_E) := [some (.iadd, 0, 0, 0), some (.iaload, 0, 0, 0), some (.aload_n 0, 0, 0, 0), some (.iload_n 3, 0, 0, 0), some (.iconst 2, 0, 0, 0), some (.iadd, 0, 0, 0), some (.iaload, 0, 0, 0), some (.aload_n 0, 0, 0, 0), some (.iload_n 3, 0, 0, 0), some (.iconst 3, 0, 0, 0), some (.iadd, 0, 0, 0), some (.iaload, 0, 0, 0), some (.invokevirtual 97, 198, 0, 3), none, none, some (.if_icmp .eq 583, 1334, 0, 0)]
def l_47 : List (Option pm_E) := [none, none, some (.iconst 0, 0, 0, 0), some (.ireturn, 0, 0, 0), some (.aload_n 1, 0, 0, 0), some (.invokevirtual 98, 81, 0, 0), none, none, some (.aload_n 2, 0, 0, 0), some (.invokevirtual 101, 199, 0, 0), none, none, some (.if_icmp .eq 570, 1334, 0, 0), none, none, some (.iconst 0, 0, 0, 0)]
def l_48 : List (Option pm_E) := [some (.ireturn, 0, 0, 0), some (.aload_n 1, 0, 0, 0), some (.aload_n 0, 0, 0, 0), some (.iload_n 3, 0, 0, 0), some (.iconst 1, 0, 0, 0), some (.iadd, 0, 0, 0), some (.iaload, 0, 0, 0), some (.invokevirtual 102, 84, 0, 1), none, none, some (.aload_n 2, 0, 0, 0), some (.aload_n 0, 0, 0, 0), some (.iload_n 3, 0, 0, 0), some (.iconst 1, 0, 0, 0), some (.iadd, 0, 0, 0), some (.iaload, 0, 0, 0)]
def l_49 : List (Option pm_E) := [some (.invokevirtual 105, 200, 0, 1), none, none, some (.if_icmp .eq 547, 1334, 0, 0), none, none, some (.iconst 0, 0, 0, 0), some (.ireturn, 0, 0, 0), some (.aload_n 1, 0, 0, 0), some (.aload_n 0, 0, 0, 0), some (.iload_n 3, 0, 0, 0), some (.iconst 1, 0, 0, 0), some (.iadd, 0, 0, 0), some (.iaload, 0, 0, 0), some (.aload_n 0, 0, 0, 0), some (.iload_n 3, 0, 0, 0)]
def l_50 : List (Option pm_E) := [some (.iconst 2, 0, 0, 0), some (.iadd, 0, 0, 0), some (.iaload, 0, 0, 0), some (.invokevirtual 106, 89, 0, 2), none, none, some (.aload_n 2, 0, 0, 0), some (.aload_n 0, 0, 0, 0), some (.iload_n 3, 0, 0, 0), some (.iconst 1, 0, 0, 0), some (.iadd, 0, 0, 0), some (.iaload, 0, 0, 0), some (.aload_n 0, 0, 0, 0), some (.iload_n 3, 0, 0, 0), some (.iconst 2, 0, 0, 0), some (.iadd, 0, 0, 0)]
def l_51 : List (Option pm_E) := [some (.iaload, 0, 0, 0), some (.invokevirtual 109, 201, 0, 2), none, none, some (.if_icmp .eq 514, 1334, 0, 0), none, none, some (.iconst 0, 0, 0, 0), some (.ireturn, 0, 0, 0), some (.aload_n 1, 0, 0, 0), some (.invokevirtual 110, 101, 0, 0), none, none, some (.aload_n 2, 0, 0, 0), some (.invokevirtual 113, 206, 0, 0)]
def l_52 : List (Option pm_E) := [none, some (.if_icmp .eq 501, 1334, 0, 0), none, none, some (.iconst 0, 0, 0, 0), some (.ireturn, 0, 0, 0), some (.aload_n 1, 0, 0, 0), some (.aload_n 0, 0, 0, 0), some (.iload_n 3, 0, 0, 0), some (.iconst 1, 0, 0, 0), some (.iadd, 0, 0, 0), some (.iaload, 0, 0, 0), some (.invokevirtual 114, 104, 0, 1), none, none, some (.aload_n 2, 0, 0, 0)]
def l_53 : List (Option pm_E) := [some (.aload_n 0, 0, 0, 0), some (.iload_n 3, 0, 0, 0), some (.iconst 1, 0, 0, 0), some (.iadd, 0, 0, 0), some (.iaload, 0, 0, 0), some (.invokevirtual 117, 207, 0, 1), none, none, some (.if_icmp .eq 478, 1334, 0, 0), none, none, some (.iconst 0, 0, 0, 0), some (.ireturn, 0, 0, 0), some (.aload_n 1, 0, 0, 0), some (.aload_n 0, 0, 0, 0), some (.iload_n 3, 0, 0, 0)]
def l_54 : List (Option pm_E) := [some (.iconst 1, 0, 0, 0), some (.iadd, 0, 0, 0), some (.iaload, 0, 0, 0), some (.aload_n 0, 0, 0, 0), some (.iload_n 3, 0, 0, 0), some (.iconst 2, 0, 0, 0), some (.iadd, 0, 0, 0), some (.iaload, 0, 0, 0), some (.aload_n 0, 0, 0, 0), some (.iload_n 3, 0, 0, 0), some (.iconst 3, 0, 0, 0), some (.iadd, 0, 0, 0), some (.iaload, 0, 0, 0), some (.aload_n 0, 0, 0, 0), some (.iload_n 3, 0, 0, 0), some (.iconst 4, 0, 0, 0)]
def l_55 : List (Option pm_E) := [some (.iadd, 0, 0, 0), some (.iaload, 0, 0, 0), some (.invokevirtual 118, 106, 0, 4), none, none, some (.aload_n 2, 0, 0, 0), some (.aload_n 0, 0, 0, 0), some (.iload_n 3, 0, 0, 0), some (.iconst 1, 0, 0, 0), some (.iadd, 0, 0, 0), some (.iaload, 0, 0, 0), some (.aload_n 0, 0, 0, 0), some (.iload_n 3, 0, 0, 0), some (.iconst 2, 0, 0, 0), some (.iadd, 0, 0, 0), some (.iaload, 0, 0, 0)]
def l_56 : List (Option pm_E) := [some (.aload_n 0, 0, 0, 0), some (.iload_n 3, 0, 0, 0), some (.iconst 3, 0, 0, 0), some (.iadd, 0, 0, 0), some (.iaload, 0, 0, 0), some (.aload_n 0, 0, 0, 0), some (.iload_n 3, 0, 0, 0), some (.iconst 4, 0, 0, 0), some (.iadd, 0, 0, 0), some (.iaload, 0, 0, 0), some (.invokevirtual 122, 208, 0, 4), none, none, some (.if_icmp .eq 425, 1334, 0, 0)]
def l_57 : List (Option pm_E) := [some (.iconst 0, 0, 0, 0), some (.ireturn, 0, 0, 0), some (.aload_n 1, 0, 0, 0), some (.aload_n 0, 0, 0, 0), some (.iload_n 3, 0, 0, 0), some (.iconst 1, 0, 0, 0), some (.iadd, 0, 0, 0), some (.iaload, 0, 0, 0), some (.aload_n 0, 0, 0, 0), some (.iload_n 3, 0, 0, 0), some (.iconst 2, 0, 0, 0), some (.iadd, 0, 0, 0), some (.iaload, 0, 0, 0), some (.aload_n 0, 0, 0, 0), some (.iload_n 3, 0, 0, 0), some (.iconst 3, 0, 0, 0)]
def l_58 : List (Option pm_E) := [some (.iadd, 0, 0, 0), some (.iaload, 0, 0, 0), some (.invokevirtual 123, 110, 0, 3), none, none, some (.aload_n 2, 0, 0, 0), some (.aload_n 0, 0, 0, 0), some (.iload_n 3, 0, 0, 0), some (.iconst 1, 0, 0, 0), some (.iadd, 0, 0, 0), some (.iaload, 0, 0, 0), some (.aload_n 0, 0, 0, 0), some (.iload_n 3, 0, 0, 0), some (.iconst 2, 0, 0, 0), some (.iadd, 0, 0, 0), some (.iaload, 0, 0, 0)]
def l_59 : List (Option pm_E) := [some (.aload_n 0, 0, 0, 0), some (.iload_n 3, 0, 0, 0), some (.iconst 3, 0, 0, 0), some (.iadd, 0, 0, 0), some (.iaload, 0, 0, 0), some (.invokevirtual 126, 209, 0, 3), none, none, some (.if_icmp .eq 382, 1334, 0, 0), none, none, some (.iconst 0, 0, 0, 0), some (.ireturn, 0, 0, 0), some (.aload_n 1, 0, 0, 0), some (.aload_n 0, 0, 0, 0), some (.iload_n 3, 0, 0, 0)]
def l_60 : List (Option pm_E) := [some (.iconst 1, 0, 0, 0), some (.iadd, 0, 0, 0), some (.iaload, 0, 0, 0), some (.aload_n 0, 0, 0, 0), some (.iload_n 3, 0, 0, 0), some (.iconst 2, 0, 0, 0), some (.iadd, 0, 0, 0), some (.iaload, 0, 0, 0), some (.aload_n 0, 0, 0, 0), some (.iload_n 3, 0, 0, 0), some (.iconst 3, 0, 0, 0), some (.iadd, 0, 0, 0), some (.iaload, 0, 0, 0), some (.invokevirtual 127, 112, 0, 3)]
def l_61 : List (Option pm_E) := [some (.aload_n 2, 0, 0, 0), some (.aload_n 0, 0, 0, 0), some (.iload_n 3, 0, 0, 0), some (.iconst 1, 0, 0, 0), some (.iadd, 0, 0, 0), some (.iaload, 0, 0, 0), some (.aload_n 0, 0, 0, 0), some (.iload_n 3, 0, 0, 0), some (.iconst 2, 0, 0, 0), some (.iadd, 0, 0, 0), some (.iaload, 0, 0, 0), some (.aload_n 0, 0, 0, 0), some (.iload_n 3, 0, 0, 0), some (.iconst 3, 0, 0, 0), some (.iadd, 0, 0, 0), some (.iaload, 0, 0, 0)]
def l_62 : List (Option pm_E) := [some (.invokevirtual 131, 210, 0, 3), none, none, some (.lcmp, 0, 0, 0), some (.ifCond .eq 338, 1334, 0, 0), none, none, some (.iconst 0, 0, 0, 0), some (.ireturn, 0, 0, 0), some (.aload_n 1, 0, 0, 0), some (.aload_n 0, 0, 0, 0), some (.iload_n 3, 0, 0, 0), some (.iconst 1, 0, 0, 0), some (.iadd, 0, 0, 0), some (.iaload, 0, 0, 0), some (.aload_n 0, 0, 0, 0)]
def l_63 : List (Option pm_E) := [some (.iload_n 3, 0, 0, 0), some (.iconst 2, 0, 0, 0), some (.iadd, 0, 0, 0), some (.iaload, 0, 0, 0), some (.invokevirtual 132, 118, 0, 2), none, none, some (.aload_n 2, 0, 0, 0), some (.aload_n 0, 0, 0, 0), some (.iload_n 3, 0, 0, 0), some (.iconst 1, 0, 0, 0), some (.iadd, 0, 0, 0), some (.iaload, 0, 0, 0), some (.aload_n 0, 0, 0, 0), some (.iload_n 3, 0, 0, 0), some (.iconst 2, 0, 0, 0)]
def l_64 : List (Option pm_E) := [some (.iadd, 0, 0, 0), some (.iaload, 0, 0, 0), some (.invokevirtual 135, 212, 0, 2), none, none, some (.if_icmp .eq 305, 1334, 0, 0), none, none, some (.iconst 0, 0, 0, 0), some (.ireturn, 0, 0, 0), some (.aload_n 1, 0, 0, 0), some (.aload_n 0, 0, 0, 0), some (.iload_n 3, 0, 0, 0), some (.iconst 1, 0, 0, 0), some (.iadd, 0, 0, 0), some (.iaload, 0, 0, 0)]
def l_65 : List (Option pm_E) := [some (.invokevirtual 136, 119, 0, 1), none, none, some (.aload_n 2, 0, 0, 0), some (.aload_n 0, 0, 0, 0), some (.iload_n 3, 0, 0, 0), some (.iconst 1, 0, 0, 0), some (.iadd, 0, 0, 0), some (.iaload, 0, 0, 0), some (.invokevirtual 139, 213, 0, 1), none, none, some (.if_icmp .eq 282, 1334, 0, 0), none, none, some (.iconst 0, 0, 0, 0)]
def l_66 : List (Option pm_E) := [some (.ireturn, 0, 0, 0), some (.aload_n 1, 0, 0, 0), some (.aload_n 0, 0, 0, 0), some (.iload_n 3, 0, 0, 0), some (.iconst 1, 0, 0, 0), some (.iadd, 0, 0, 0), some (.iaload, 0, 0, 0), some (.invokevirtual 140, 120, 0, 1), none, none, some (.aload_n 2, 0, 0, 0), some (.aload_n 0, 0, 0, 0), some (.iload_n 3, 0, 0, 0), some (.iconst 1, 0, 0, 0), some (.iadd, 0, 0, 0), some (.iaload, 0, 0, 0)]
def l_67 : List (Option pm_E) := [some (.invokevirtual 143, 214, 0, 1), none, none, some (.if_icmp .eq 259, 1334, 0, 0), none, none, some (.iconst 0, 0, 0, 0), some (.ireturn, 0, 0, 0), some (.aload_n 1, 0, 0, 0), some (.aload_n 0, 0, 0, 0), some (.iload_n 3, 0, 0, 0), some (.iconst 1, 0, 0, 0), some (.iadd, 0, 0, 0), some (.iaload, 0, 0, 0), some (.aload_n 0, 0, 0, 0), some (.iload_n 3, 0, 0, 0)]
def l_68 : List (Option pm_E) := [some (.iconst 2, 0, 0, 0), some (.iadd, 0, 0, 0), some (.iaload, 0, 0, 0), some (.invokevirtual 144, 125, 0, 2), none, none, some (.aload_n 2, 0, 0, 0), some (.aload_n 0, 0, 0, 0), some (.iload_n 3, 0, 0, 0), some (.iconst 1, 0, 0, 0), some (.iadd, 0, 0, 0), some (.iaload, 0, 0, 0), some (.aload_n 0, 0, 0, 0), some (.iload_n 3, 0, 0, 0), some (.iconst 2, 0, 0, 0), some (.iadd, 0, 0, 0)]
def l_69 : List (Option pm_E) := [some (.iaload, 0, 0, 0), some (.invokevirtual 147, 215, 0, 2), none, none, some (.if_icmp .eq 226, 1334, 0, 0), none, none, some (.iconst 0, 0, 0, 0), some (.ireturn, 0, 0, 0), some (.aload_n 1, 0, 0, 0), some (.aload_n 0, 0, 0, 0), some (.iload_n 3, 0, 0, 0), some (.iconst 1, 0, 0, 0), some (.iadd, 0, 0, 0), some (.iaload, 0, 0, 0), some (.invokevirtual 148, 128, 0, 1)]
def l_70 : List (Option pm_E) := [none, none, some (.aload_n 2, 0, 0, 0), some (.aload_n 0, 0, 0, 0), some (.iload_n 3, 0, 0, 0), some (.iconst 1, 0, 0, 0), some (.iadd, 0, 0, 0), some (.iaload, 0, 0, 0), some (.invokevirtual 151, 216, 0, 1), none, none, some (.if_icmp .eq 203, 1334, 0, 0), none, none, some (.iconst 0, 0, 0, 0), some (.ireturn, 0, 0, 0)]
def l_71 : List (Option pm_E) := [some (.aload_n 1, 0, 0, 0), some (.aload_n 0, 0, 0, 0), some (.iload_n 3, 0, 0, 0), some (.iconst 1, 0, 0, 0), some (.iadd, 0, 0, 0), some (.iaload, 0, 0, 0), some (.invokevirtual 152, 129, 0, 1), none, none, some (.aload_n 2, 0, 0, 0), some (.aload_n 0, 0, 0, 0), some (.iload_n 3, 0, 0, 0), some (.iconst 1, 0, 0, 0), some (.iadd, 0, 0, 0), some (.iaload, 0, 0, 0), some (.invokevirtual 155, 218, 0, 1)]
def l_72 : List (Option pm_E) := [none, none, some (.if_icmp .eq 180, 1334, 0, 0), none, none, some (.iconst 0, 0, 0, 0), some (.ireturn, 0, 0, 0), some (.aload_n 1, 0, 0, 0), some (.aload_n 0, 0, 0, 0), some (.iload_n 3, 0, 0, 0), some (.iconst 1, 0, 0, 0), some (.iadd, 0, 0, 0), some (.iaload, 0, 0, 0), some (.aload_n 0, 0, 0, 0), some (.iload_n 3, 0, 0, 0), some (.iconst 2, 0, 0, 0)]
def l_73 : List (Option pm_E) := [some (.iadd, 0, 0, 0), some (.iaload, 0, 0, 0), some (.aload_n 0, 0, 0, 0), some (.iload_n 3, 0, 0, 0), some (.iconst 3, 0, 0, 0), some (.iadd, 0, 0, 0), some (.iaload, 0, 0, 0), some (.invokevirtual 156, 130, 0, 3), none, none, some (.aload_n 2, 0, 0, 0), some (.aload_n 0, 0, 0, 0), some (.iload_n 3, 0, 0, 0), some (.iconst 1, 0, 0, 0), some (.iadd, 0, 0, 0), some (.iaload, 0, 0, 0)]
def l_74 : List (Option pm_E) := [some (.aload_n 0, 0, 0, 0), some (.iload_n 3, 0, 0, 0), some (.iconst 2, 0, 0, 0), some (.iadd, 0, 0, 0), some (.iaload, 0, 0, 0), some (.aload_n 0, 0, 0, 0), some (.iload_n 3, 0, 0, 0), some (.iconst 3, 0, 0, 0), some (.iadd, 0, 0, 0), some (.iaload, 0, 0, 0), some (.invokevirtual 159, 219, 0, 3), none, none, some (.if_icmp .eq 137, 1334, 0, 0)]
def l_75 : List (Option pm_E) := [some (.iconst 0, 0, 0, 0), some (.ireturn, 0, 0, 0), some (.aload_n 1, 0, 0, 0), some (.aload_n 0, 0, 0, 0), some (.iload_n 3, 0, 0, 0), some (.iconst 1, 0, 0, 0), some (.iadd, 0, 0, 0), some (.iaload, 0, 0, 0), some (.aload_n 0, 0, 0, 0), some (.iload_n 3, 0, 0, 0), some (.iconst 2, 0, 0, 0), some (.iadd, 0, 0, 0), some (.iaload, 0, 0, 0), some (.aload_n 0, 0, 0, 0), some (.iload_n 3, 0, 0, 0), some (.iconst 3, 0, 0, 0)]
def l_76 : List (Option pm_E) := [some (.iadd, 0, 0, 0), some (.iaload, 0, 0, 0), some (.invokevirtual 160, 134, 0, 3), none, none, some (.aload_n 2, 0, 0, 0), some (.aload_n 0, 0, 0, 0), some (.iload_n 3, 0, 0, 0), some (.iconst 1, 0, 0, 0), some (.iadd, 0, 0, 0), some (.iaload, 0, 0, 0), some (.aload_n 0, 0, 0, 0), some (.iload_n 3, 0, 0, 0), some (.iconst 2, 0, 0, 0), some (.iadd, 0, 0, 0), some (.iaload, 0, 0, 0)]
def l_77 : List (Option pm_E) := [some (.aload_n 0, 0, 0, 0), some (.iload_n 3, 0, 0, 0), some (.iconst 3, 0, 0, 0), some (.iadd, 0, 0, 0), some (.iaload, 0, 0, 0), some (.invokevirtual 163, 221, 0, 3), none, none, some (.if_icmp .eq 94, 1334, 0, 0), none, none, some (.iconst 0, 0, 0, 0), some (.ireturn, 0, 0, 0), some (.aload_n 1, 0, 0, 0), some (.aload_n 0, 0, 0, 0), some (.iload_n 3, 0, 0, 0)]
def l_78 : List (Option pm_E) := [some (.iconst 1, 0, 0, 0), some (.iadd, 0, 0, 0), some (.iaload, 0, 0, 0), some (.aload_n 0, 0, 0, 0), some (.iload_n 3, 0, 0, 0), some (.iconst 2, 0, 0, 0), some (.iadd, 0, 0, 0), some (.iaload, 0, 0, 0), some (.aload_n 0, 0, 0, 0), some (.iload_n 3, 0, 0, 0), some (.iconst 3, 0, 0, 0), some (.iadd, 0, 0, 0), some (.iaload, 0, 0, 0), some (.aload_n 0, 0, 0, 0), some (.iload_n 3, 0, 0, 0), some (.iconst 4, 0, 0, 0)]
def l_79 : List (Option pm_E) := [some (.iadd, 0, 0, 0), some (.iaload, 0, 0, 0), some (.invokevirtual 164, 138, 0, 4), none, none, some (.aload_n 2, 0, 0, 0), some (.aload_n 0, 0, 0, 0), some (.iload_n 3, 0, 0, 0), some (.iconst 1, 0, 0, 0), some (.iadd, 0, 0, 0), some (.iaload, 0, 0, 0), some (.aload_n 0, 0, 0, 0), some (.iload_n 3, 0, 0, 0), some (.iconst 2, 0, 0, 0), some (.iadd, 0, 0, 0), some (.iaload, 0, 0, 0)]
def l_80 : List (Option pm_E) := [some (.aload_n 0, 0, 0, 0), some (.iload_n 3, 0, 0, 0), some (.iconst 3, 0, 0, 0), some (.iadd, 0, 0, 0), some (.iaload, 0, 0, 0), some (.aload_n 0, 0, 0, 0), some (.iload_n 3, 0, 0, 0), some (.iconst 4, 0, 0, 0), some (.iadd, 0, 0, 0), some (.iaload, 0, 0, 0), some (.invokevirtual 167, 222, 0, 4), none, none, some (.if_icmp .eq 41, 1334, 0, 0)]
def l_81 : List (Option pm_E) := [some (.iconst 0, 0, 0, 0), some (.ireturn, 0, 0, 0), some (.aload_n 1, 0, 0, 0), some (.invokevirtual 168, 142, 0, 0), none, none, some (.aload_n 2, 0, 0, 0), some (.invokevirtual 171, 223, 0, 0), none, none, some (.if_icmp .eq 28, 1334, 0, 0), none, none, some (.iconst 0, 0, 0, 0), some (.ireturn, 0, 0, 0), some (.aload_n 1, 0, 0, 0)]
def l_82 : List (Option pm_E) := [some (.aload_n 0, 0, 0, 0), some (.iload_n 3, 0, 0, 0), some (.iconst 1, 0, 0, 0), some (.iadd, 0, 0, 0), some (.iaload, 0, 0, 0), some (.invokevirtual 172, 143, 0, 1), none, none, some (.aload_n 2, 0, 0, 0), some (.aload_n 0, 0, 0, 0), some (.iload_n 3, 0, 0, 0), some (.iconst 1, 0, 0, 0), some (.iadd, 0, 0, 0), some (.iaload, 0, 0, 0), some (.invokevirtual 175, 224, 0, 1)]
def l_83 : List (Option pm_E) := [none, some (.if_icmp .eq 5, 1334, 0, 0), none, none, some (.iconst 0, 0, 0, 0), some (.ireturn, 0, 0, 0), some (.iinc 3 5, 0, 0, 0), none, none, some (.goto (-1319), 18, 0, 0), none, none, some (.iconst 1, 0, 0, 0), some (.ireturn, 0, 0, 0)]
def m_0 : pm_M := (⟨"MoodTownLaw", "law", "([I)Z"⟩, code, 4, (some .boolean), 8, 1, 11, 376, 600000, 7302250,
  [l_0, l_1, l_2, l_3, l_4, l_5, l_6, l_7, l_8, l_9, l_10, l_11, l_12, l_13, l_14, l_15, l_16, l_17, l_18, l_19, l_20, l_21, l_22, l_23, l_24, l_25, l_26, l_27, l_28, l_29, l_30, l_31, l_32, l_33, l_34, l_35, l_36, l_37, l_38, l_39, l_40, l_41, l_42, l_43, l_44, l_45, l_46, l_47, l_48, l_49, l_50, l_51, l_52, l_53, l_54, l_55, l_56, l_57, l_58, l_59, l_60, l_61, l_62, l_63, l_64, l_65, l_66, l_67, l_68, l_69, l_70, l_71, l_72, l_73, l_74, l_75, l_76, l_77, l_78, l_79, l_80, l_81, l_82, l_83])
def m_1 : pm_M := (⟨"MoodTown", "<init>", "()V"⟩, prog_1_method_1_code, 2, none, 6, 1, 4, 85, 61, 748,
  [[some (.aload_n 0, 0, 0, 0), some (.invokespecial 3, 0, 9, 0), none, none, some (.aload_n 0, 0, 0, 0), some (.new 9, 2, 0, 0), none, none, some (.dup, 0, 0, 0), some (.invokespecial 11, 2, 1, 0), none, none, some (.putfield 12, 6, 0, 0), none, none, some (.aload_n 0, 0, 0, 0)],
   [some (.new 16, 3, 0, 0), none, none, some (.dup, 0, 0, 0), some (.aload_n 0, 0, 0, 0), some (.getfield 12, 6, 0, 0), none, none, some (.invokespecial 18, 3, 1, 1), none, none, some (.putfield 21, 6, 1, 0), none, none, some (.aload_n 0, 0, 0, 0), some (.new 25, 4, 0, 0)],
   [none, none, some (.dup, 0, 0, 0), some (.invokespecial 27, 4, 1, 0), none, none, some (.putfield 28, 6, 2, 0), none, none, some (.aload_n 0, 0, 0, 0), some (.new 32, 5, 0, 0), none, none, some (.dup, 0, 0, 0), some (.invokespecial 34, 7, 1, 0)],
   [none, some (.putfield 35, 6, 3, 0), none, none, some (.aload_n 0, 0, 0, 0), some (.new 39, 0, 0, 0), none, none, some (.dup, 0, 0, 0), some (.aload_n 0, 0, 0, 0), some (.getfield 35, 6, 3, 0), none, none, some (.invokespecial 41, 8, 1, 1)],
   [some (.putfield 44, 6, 4, 0), none, none, some (.aload_n 0, 0, 0, 0), some (.iconst 2, 0, 0, 0), some (.anewarray 25, 4, 0, 0), none, none, some (.putfield 48, 6, 5, 0), none, none, some (.iconst 0, 0, 0, 0), some (.istore_n 1, 0, 0, 0), some (.iload_n 1, 0, 0, 0), some (.iconst 2, 0, 0, 0), some (.if_icmp .ge 22, 101, 0, 0)],
   [none, none, some (.aload_n 0, 0, 0, 0), some (.getfield 48, 6, 5, 0), none, none, some (.iload_n 1, 0, 0, 0), some (.new 25, 4, 0, 0), none, none, some (.dup, 0, 0, 0), some (.invokespecial 27, 4, 1, 0), none, none, some (.aastore, 0, 0, 0), some (.iinc 1 1, 0, 0, 0)],
   [none, none, some (.goto (-21), 77, 0, 0), none, none, some (.aload_n 0, 0, 0, 0), some (.iconst 4, 0, 0, 0), some (.anewarray 52, 5, 0, 0), none, none, some (.putfield 54, 6, 6, 0), none, none, some (.iconst 0, 0, 0, 0), some (.istore_n 1, 0, 0, 0), some (.iload_n 1, 0, 0, 0)],
   [some (.iconst 4, 0, 0, 0), some (.if_icmp .ge 22, 135, 0, 0), none, none, some (.aload_n 0, 0, 0, 0), some (.getfield 54, 6, 6, 0), none, none, some (.iload_n 1, 0, 0, 0), some (.new 52, 1, 0, 0), none, none, some (.dup, 0, 0, 0), some (.invokespecial 58, 9, 1, 0)],
   [some (.aastore, 0, 0, 0), some (.iinc 1 1, 0, 0, 0), none, none, some (.goto (-21), 111, 0, 0), none, none, some (.return_, 0, 0, 0)]])
def m_2 : pm_M := (⟨"MoodTown$Tape", "<init>", "()V"⟩, prog_4_method_1_code, 1, none, 2, 1, 1, 20, 1, 160,
  [[some (.aload_n 0, 0, 0, 0), some (.invokespecial 3, 0, 9, 0), none, none, some (.aload_n 0, 0, 0, 0), some (.sipush 160, 0, 0, 0), none, none, some (.newarray .byte, 1, 0, 0), none, some (.putfield 9, 2, 0, 0), none, none, some (.return_, 0, 0, 0)]])
def m_3 : pm_M := (⟨"MoodTown$Telling", "<init>", "(LMoodTown$Tape;)V"⟩, prog_5_method_1_code, 2, none, 3, 2, 3, 64, 8, 59,
  [[some (.aload_n 0, 0, 0, 0), some (.invokespecial 3, 0, 9, 0), none, none, some (.aload_n 0, 0, 0, 0), some (.aload_n 1, 0, 0, 0), some (.putfield 9, 3, 4, 0), none, none, some (.aload_n 0, 0, 0, 0), some (.new 15, 4, 0, 0), none, none, some (.dup, 0, 0, 0), some (.invokespecial 17, 4, 1, 0)],
   [none, some (.putfield 18, 3, 0, 0), none, none, some (.return_, 0, 0, 0)]])
def m_4 : pm_M := (⟨"MoodTown$Town", "<init>", "()V"⟩, prog_6_method_1_code, 1, none, 4, 1, 2, 44, 7, 45,
  [[some (.aload_n 0, 0, 0, 0), some (.invokespecial 3, 0, 9, 0), none, none, some (.aload_n 0, 0, 0, 0), some (.bipush 6, 0, 0, 0), none, some (.newarray .int, 0, 0, 0), none, some (.putfield 9, 4, 7, 0), none, none, some (.aload_n 0, 0, 0, 0), some (.bipush 6, 0, 0, 0), none, some (.newarray .int, 0, 0, 0)],
   [none, some (.putfield 15, 4, 8, 0), none, none, some (.aload_n 0, 0, 0, 0), some (.bipush 6, 0, 0, 0), none, some (.newarray .int, 0, 0, 0), none, some (.putfield 18, 4, 9, 0), none, none, some (.aload_n 0, 0, 0, 0), some (.bipush 6, 0, 0, 0), none, some (.newarray .int, 0, 0, 0)],
   [none, some (.putfield 21, 4, 10, 0), none, none, some (.aload_n 0, 0, 0, 0), some (.iconst 5, 0, 0, 0), some (.newarray .int, 0, 0, 0), none, some (.putfield 24, 4, 11, 0), none, none, some (.aload_n 0, 0, 0, 0), some (.bipush 8, 0, 0, 0), none, some (.newarray .int, 0, 0, 0)],
   [some (.putfield 27, 4, 12, 0), none, none, some (.aload_n 0, 0, 0, 0), some (.bipush 8, 0, 0, 0), none, some (.newarray .int, 0, 0, 0), none, some (.putfield 30, 4, 13, 0), none, none, some (.aload_n 0, 0, 0, 0), some (.invokevirtual 33, 5, 0, 0), none, none, some (.return_, 0, 0, 0)]])
def m_5 : pm_M := (⟨"MoodTown$Town", "clear", "()V"⟩, prog_6_method_2_code, 2, none, 4, 1, 1, 23, 0, 0,
  [[some (.aload_n 0, 0, 0, 0), some (.iconst 3, 0, 0, 0), some (.putfield 36, 4, 0, 0), none, none, some (.aload_n 0, 0, 0, 0), some (.iconst 3, 0, 0, 0), some (.putfield 40, 4, 1, 0), none, none, some (.aload_n 0, 0, 0, 0), some (.iconst 0, 0, 0, 0), some (.putfield 43, 4, 2, 0), none, none, some (.aload_n 0, 0, 0, 0)],
   [some (.iconst 0, 0, 0, 0), some (.putfield 46, 4, 3, 0), none, none, some (.aload_n 0, 0, 0, 0), some (.iconst 0, 0, 0, 0), some (.putfield 49, 4, 4, 0), none, none, some (.aload_n 0, 0, 0, 0), some (.iconst 0, 0, 0, 0), some (.putfield 52, 4, 5, 0), none, none, some (.aload_n 0, 0, 0, 0), some (.iconst 0, 0, 0, 0)],
   [some (.putfield 55, 4, 6, 0), none, none, some (.aload_n 0, 0, 0, 0), some (.getfield 21, 4, 10, 0), none, none, some (.bipush (-4), 0, 0, 0), none, some (.invokestatic 58, 6, 2, 2), none, none, some (.iconst 1, 0, 0, 0), some (.istore_n 1, 0, 0, 0), some (.iload_n 1, 0, 0, 0), some (.iconst 4, 0, 0, 0)],
   [some (.if_icmp .gt 18, 66, 0, 0), none, none, some (.aload_n 0, 0, 0, 0), some (.getfield 24, 4, 11, 0), none, none, some (.iload_n 1, 0, 0, 0), some (.iconst 5, 0, 0, 0), some (.iload_n 1, 0, 0, 0), some (.isub, 0, 0, 0), some (.iastore, 0, 0, 0), some (.iinc 1 1, 0, 0, 0), none, none, some (.goto (-17), 46, 0, 0)],
   [none, none, some (.return_, 0, 0, 0)]])
def m_6 : pm_M := (⟨"java/util/Arrays", "fill", "([II)V"⟩, prog_16_method_103_code, 4, none, 9, 2, 0, 0, 0, 0,
  [[some (.iconst 0, 0, 0, 0), some (.istore_n 2, 0, 0, 0), some (.aload_n 0, 0, 0, 0), some (.arraylength, 0, 0, 0), some (.istore_n 3, 0, 0, 0), some (.iload_n 2, 0, 0, 0), some (.iload_n 3, 0, 0, 0), some (.if_icmp .ge 13, 20, 0, 0), none, none, some (.aload_n 0, 0, 0, 0), some (.iload_n 2, 0, 0, 0), some (.iload_n 1, 0, 0, 0), some (.iastore, 0, 0, 0), some (.iinc 2 1, 0, 0, 0)],
   [none, some (.goto (-12), 5, 0, 0), none, none, some (.return_, 0, 0, 0)]])
def m_7 : pm_M := (⟨"MoodTown$Walk", "<init>", "()V"⟩, prog_7_method_1_code, 1, none, 5, 1, 1, 20, 5, 30,
  [[some (.aload_n 0, 0, 0, 0), some (.invokespecial 3, 0, 9, 0), none, none, some (.aload_n 0, 0, 0, 0), some (.bipush 6, 0, 0, 0), none, some (.newarray .int, 0, 0, 0), none, some (.putfield 9, 5, 0, 0), none, none, some (.aload_n 0, 0, 0, 0), some (.bipush 6, 0, 0, 0), none, some (.newarray .int, 0, 0, 0)],
   [none, some (.putfield 15, 5, 1, 0), none, none, some (.aload_n 0, 0, 0, 0), some (.bipush 6, 0, 0, 0), none, some (.newarray .int, 0, 0, 0), none, some (.putfield 18, 5, 2, 0), none, none, some (.aload_n 0, 0, 0, 0), some (.bipush 6, 0, 0, 0), none, some (.newarray .int, 0, 0, 0)],
   [none, some (.putfield 21, 5, 3, 0), none, none, some (.aload_n 0, 0, 0, 0), some (.bipush 6, 0, 0, 0), none, some (.newarray .int, 0, 0, 0), none, some (.putfield 24, 5, 4, 0), none, none, some (.return_, 0, 0, 0)]])
def m_8 : pm_M := (⟨"MoodTown$Search", "<init>", "(LMoodTown$Walk;)V"⟩, prog_2_method_1_code, 2, none, 0, 2, 3, 64, 9, 120,
  [[some (.aload_n 0, 0, 0, 0), some (.invokespecial 3, 0, 9, 0), none, none, some (.aload_n 0, 0, 0, 0), some (.aload_n 1, 0, 0, 0), some (.putfield 9, 0, 0, 0), none, none, some (.aload_n 0, 0, 0, 0), some (.new 15, 4, 0, 0), none, none, some (.dup, 0, 0, 0), some (.invokespecial 17, 4, 1, 0)],
   [none, some (.putfield 18, 0, 1, 0), none, none, some (.aload_n 0, 0, 0, 0), some (.bipush 61, 0, 0, 0), none, some (.newarray .long, 3, 0, 0), none, some (.putfield 22, 0, 2, 0), none, none, some (.return_, 0, 0, 0)]])
def m_9 : pm_M := (⟨"MoodTown$Sheet", "<init>", "()V"⟩, prog_3_method_1_code, 1, none, 1, 1, 1, 20, 1, 40,
  [[some (.aload_n 0, 0, 0, 0), some (.invokespecial 3, 0, 9, 0), none, none, some (.aload_n 0, 0, 0, 0), some (.bipush 40, 0, 0, 0), none, some (.newarray .int, 0, 0, 0), none, some (.putfield 9, 1, 0, 0), none, none, some (.aload_n 0, 0, 0, 0), some (.iconst (-1), 0, 0, 0), some (.putfield 15, 1, 1, 0)],
   [none, some (.return_, 0, 0, 0)]])
def m_10 : pm_M := (⟨"MoodTown", "feed", "(I)I"⟩, prog_1_method_2_code, 2, (some .int), 6, 2, 1, 21, 0, 0,
  [[some (.iload_n 1, 0, 0, 0), some (.ifCond .lt 9, 10, 0, 0), none, none, some (.iload_n 1, 0, 0, 0), some (.bipush 127, 0, 0, 0), none, some (.if_icmp .le 5, 12, 0, 0), none, none, some (.iconst (-1), 0, 0, 0), some (.ireturn, 0, 0, 0), some (.aload_n 0, 0, 0, 0), some (.getfield 12, 6, 0, 0)],
   [some (.iload_n 1, 0, 0, 0), some (.invokevirtual 59, 11, 0, 1), none, none, some (.ifCond .eq 13, 33, 0, 0), none, none, some (.aload_n 0, 0, 0, 0), some (.getfield 12, 6, 0, 0), none, none, some (.getfield 63, 2, 1, 0), none, none, some (.goto 5, 35, 0, 0)],
   [none, some (.bipush (-3), 0, 0, 0), none, some (.ireturn, 0, 0, 0)]])
def m_11 : pm_M := (⟨"MoodTown$Tape", "append", "(I)Z"⟩, prog_4_method_2_code, 2, (some .boolean), 2, 2, 0, 0, 0, 0,
  [[some (.aload_n 0, 0, 0, 0), some (.getfield 15, 2, 1, 0), none, none, some (.aload_n 0, 0, 0, 0), some (.getfield 9, 2, 0, 0), none, none, some (.arraylength, 0, 0, 0), some (.if_icmp .lt 5, 14, 0, 0), none, none, some (.iconst 0, 0, 0, 0), some (.ireturn, 0, 0, 0), some (.aload_n 0, 0, 0, 0), some (.getfield 9, 2, 0, 0)],
   [none, none, some (.aload_n 0, 0, 0, 0), some (.getfield 15, 2, 1, 0), none, none, some (.iload_n 1, 0, 0, 0), some (.i2b, 0, 0, 0), some (.bastore, 0, 0, 0), some (.aload_n 0, 0, 0, 0), some (.dup, 0, 0, 0), some (.getfield 15, 2, 1, 0), none, none, some (.iconst 1, 0, 0, 0), some (.iadd, 0, 0, 0)],
   [some (.putfield 15, 2, 1, 0), none, none, some (.iconst 1, 0, 0, 0), some (.ireturn, 0, 0, 0)]])
def m_12 : pm_M := (⟨"MoodTown", "end", "(I)I"⟩, prog_1_method_3_code, 3, (some .int), 6, 2, 0, 0, 0, 0,
  [[some (.aload_n 0, 0, 0, 0), some (.getfield 12, 6, 0, 0), none, none, some (.getfield 63, 2, 1, 0), none, none, some (.istore_n 2, 0, 0, 0), some (.iload_n 1, 0, 0, 0), some (.ifCond .lt 8, 17, 0, 0), none, none, some (.iload_n 1, 0, 0, 0), some (.iload_n 2, 0, 0, 0), some (.if_icmp .le 5, 19, 0, 0)],
   [none, some (.iconst (-1), 0, 0, 0), some (.ireturn, 0, 0, 0), some (.aload_n 0, 0, 0, 0), some (.getfield 12, 6, 0, 0), none, none, some (.iload_n 1, 0, 0, 0), some (.putfield 63, 2, 1, 0), none, none, some (.iload_n 2, 0, 0, 0), some (.ireturn, 0, 0, 0)]])
def m_13 : pm_M := (⟨"MoodTown", "text", "()I"⟩, prog_1_method_4_code, 1, (some .int), 6, 1, 7, 147, 0, 0,
  [[some (.aload_n 0, 0, 0, 0), some (.getfield 21, 6, 1, 0), none, none, some (.invokevirtual 67, 14, 0, 0), none, none, some (.aload_n 0, 0, 0, 0), some (.getfield 12, 6, 0, 0), none, none, some (.iconst 0, 0, 0, 0), some (.putfield 63, 2, 1, 0), none, none, some (.aload_n 0, 0, 0, 0)],
   [some (.getfield 21, 6, 1, 0), none, none, some (.getfield 70, 3, 2, 0), none, none, some (.ifCond .eq 14, 36, 0, 0), none, none, some (.bipush (-10), 0, 0, 0), none, some (.aload_n 0, 0, 0, 0), some (.getfield 21, 6, 1, 0), none, none, some (.getfield 73, 3, 3, 0)],
   [none, none, some (.isub, 0, 0, 0), some (.ireturn, 0, 0, 0), some (.aload_n 0, 0, 0, 0), some (.getfield 28, 6, 2, 0), none, none, some (.aload_n 0, 0, 0, 0), some (.getfield 21, 6, 1, 0), none, none, some (.getfield 76, 3, 0, 0), none, none, some (.invokevirtual 79, 41, 0, 1)],
   [none, none, some (.aload_n 0, 0, 0, 0), some (.iconst 0, 0, 0, 0), some (.putfield 83, 6, 7, 0), none, none, some (.aload_n 0, 0, 0, 0), some (.getfield 21, 6, 1, 0), none, none, some (.getfield 86, 3, 1, 0), none, none, some (.ireturn, 0, 0, 0)]])
def m_14 : pm_M := (⟨"MoodTown$Telling", "takeTape", "()V"⟩, prog_5_method_2_code, 1, none, 3, 1, 6, 127, 0, 0,
  [[some (.aload_n 0, 0, 0, 0), some (.getfield 18, 3, 0, 0), none, none, some (.invokevirtual 22, 5, 0, 0), none, none, some (.aload_n 0, 0, 0, 0), some (.iconst 0, 0, 0, 0), some (.putfield 25, 3, 1, 0), none, none, some (.aload_n 0, 0, 0, 0), some (.iconst 0, 0, 0, 0), some (.putfield 29, 3, 2, 0)],
   [none, some (.aload_n 0, 0, 0, 0), some (.iconst 0, 0, 0, 0), some (.putfield 32, 3, 3, 0), none, none, some (.aload_n 0, 0, 0, 0), some (.iconst 0, 0, 0, 0), some (.putfield 35, 3, 5, 0), none, none, some (.aload_n 0, 0, 0, 0), some (.iconst 0, 0, 0, 0), some (.putfield 39, 3, 6, 0)],
   [some (.aload_n 0, 0, 0, 0), some (.iconst 0, 0, 0, 0), some (.putfield 42, 3, 7, 0), none, none, some (.aload_n 0, 0, 0, 0), some (.getfield 9, 3, 4, 0), none, none, some (.invokevirtual 45, 15, 0, 0), none, none, some (.aload_n 0, 0, 0, 0), some (.getfield 9, 3, 4, 0)],
   [some (.invokevirtual 50, 16, 0, 0), none, none, some (.aload_n 0, 0, 0, 0), some (.getfield 29, 3, 2, 0), none, none, some (.ifCond .ne 52, 107, 0, 0), none, none, some (.aload_n 0, 0, 0, 0), some (.getfield 9, 3, 4, 0), none, none, some (.getfield 53, 2, 2, 0)],
   [none, some (.iconst 4, 0, 0, 0), some (.if_icmp .eq 41, 107, 0, 0), none, none, some (.aload_n 0, 0, 0, 0), some (.getfield 25, 3, 1, 0), none, none, some (.sipush 160, 0, 0, 0), none, none, some (.if_icmp .gt 31, 107, 0, 0), none, none, some (.aload_n 0, 0, 0, 0)],
   [some (.invokevirtual 56, 19, 0, 0), none, none, some (.aload_n 0, 0, 0, 0), some (.invokevirtual 59, 36, 0, 0), none, none, some (.aload_n 0, 0, 0, 0), some (.dup, 0, 0, 0), some (.getfield 25, 3, 1, 0), none, none, some (.iconst 1, 0, 0, 0), some (.iadd, 0, 0, 0), some (.putfield 25, 3, 1, 0)],
   [none, some (.aload_n 0, 0, 0, 0), some (.getfield 9, 3, 4, 0), none, none, some (.invokevirtual 50, 16, 0, 0), none, none, some (.goto (-53), 51, 0, 0), none, none, some (.aload_n 0, 0, 0, 0), some (.getfield 29, 3, 2, 0), none, none, some (.ifCond .ne 23, 134, 0, 0)],
   [none, none, some (.aload_n 0, 0, 0, 0), some (.invokevirtual 62, 37, 0, 0), none, none, some (.ifCond .eq 16, 134, 0, 0), none, none, some (.aload_n 0, 0, 0, 0), some (.bipush 6, 0, 0, 0), none, some (.aload_n 0, 0, 0, 0), some (.getfield 9, 3, 4, 0)],
   [some (.getfield 66, 2, 1, 0), none, none, some (.invokevirtual 69, 20, 0, 2), none, none, some (.return_, 0, 0, 0)]])
def m_15 : pm_M := (⟨"MoodTown$Tape", "rewind", "()V"⟩, prog_4_method_3_code, 1, none, 2, 1, 0, 0, 0, 0,
  [[some (.aload_n 0, 0, 0, 0), some (.iconst 0, 0, 0, 0), some (.putfield 19, 2, 5, 0), none, none, some (.return_, 0, 0, 0)]])
def m_16 : pm_M := (⟨"MoodTown$Tape", "nextToken", "()V"⟩, prog_4_method_4_code, 1, none, 2, 1, 1, 21, 0, 0,
  [[some (.aload_n 0, 0, 0, 0), some (.getfield 19, 2, 5, 0), none, none, some (.aload_n 0, 0, 0, 0), some (.getfield 15, 2, 1, 0), none, none, some (.if_icmp .ge 30, 38, 0, 0), none, none, some (.aload_n 0, 0, 0, 0), some (.getfield 9, 2, 0, 0), none, none, some (.aload_n 0, 0, 0, 0)],
   [some (.getfield 19, 2, 5, 0), none, none, some (.baload, 0, 0, 0), some (.bipush 32, 0, 0, 0), none, some (.if_icmp .ne 16, 38, 0, 0), none, none, some (.aload_n 0, 0, 0, 0), some (.dup, 0, 0, 0), some (.getfield 19, 2, 5, 0), none, none, some (.iconst 1, 0, 0, 0), some (.iadd, 0, 0, 0)],
   [some (.putfield 19, 2, 5, 0), none, none, some (.goto (-35), 0, 0, 0), none, none, some (.aload_n 0, 0, 0, 0), some (.aload_n 0, 0, 0, 0), some (.getfield 19, 2, 5, 0), none, none, some (.putfield 22, 2, 3, 0), none, none, some (.aload_n 0, 0, 0, 0), some (.iconst 4, 0, 0, 0)],
   [some (.putfield 25, 2, 2, 0), none, none, some (.aload_n 0, 0, 0, 0), some (.getfield 19, 2, 5, 0), none, none, some (.aload_n 0, 0, 0, 0), some (.getfield 15, 2, 1, 0), none, none, some (.if_icmp .ge 29, 88, 0, 0), none, none, some (.aload_n 0, 0, 0, 0), some (.aload_n 0, 0, 0, 0)],
   [some (.getfield 9, 2, 0, 0), none, none, some (.aload_n 0, 0, 0, 0), some (.getfield 19, 2, 5, 0), none, none, some (.baload, 0, 0, 0), some (.invokestatic 28, 17, 2, 1), none, none, some (.putfield 25, 2, 2, 0), none, none, some (.aload_n 0, 0, 0, 0), some (.dup, 0, 0, 0)],
   [some (.getfield 19, 2, 5, 0), none, none, some (.iconst 1, 0, 0, 0), some (.iadd, 0, 0, 0), some (.putfield 19, 2, 5, 0), none, none, some (.aload_n 0, 0, 0, 0), some (.getfield 19, 2, 5, 0), none, none, some (.aload_n 0, 0, 0, 0), some (.getfield 15, 2, 1, 0)],
   [some (.if_icmp .ge 51, 147, 0, 0), none, none, some (.aload_n 0, 0, 0, 0), some (.getfield 25, 2, 2, 0), none, none, some (.iconst 1, 0, 0, 0), some (.if_icmp .eq 11, 115, 0, 0), none, none, some (.aload_n 0, 0, 0, 0), some (.getfield 25, 2, 2, 0), none, none, some (.iconst 2, 0, 0, 0)],
   [some (.if_icmp .ne 35, 147, 0, 0), none, none, some (.aload_n 0, 0, 0, 0), some (.getfield 9, 2, 0, 0), none, none, some (.aload_n 0, 0, 0, 0), some (.getfield 19, 2, 5, 0), none, none, some (.baload, 0, 0, 0), some (.invokestatic 28, 17, 2, 1), none, none, some (.aload_n 0, 0, 0, 0)],
   [some (.getfield 25, 2, 2, 0), none, none, some (.if_icmp .ne 16, 147, 0, 0), none, none, some (.aload_n 0, 0, 0, 0), some (.dup, 0, 0, 0), some (.getfield 19, 2, 5, 0), none, none, some (.iconst 1, 0, 0, 0), some (.iadd, 0, 0, 0), some (.putfield 19, 2, 5, 0)],
   [some (.goto (-56), 88, 0, 0), none, none, some (.aload_n 0, 0, 0, 0), some (.getfield 25, 2, 2, 0), none, none, some (.iconst 2, 0, 0, 0), some (.if_icmp .ne 7, 159, 0, 0), none, none, some (.aload_n 0, 0, 0, 0), some (.invokevirtual 32, 18, 0, 0), none, none, some (.return_, 0, 0, 0)]])
def m_17 : pm_M := (⟨"MoodTown$Tape", "kindOf", "(I)I"⟩, prog_4_method_5_code, 1, (some .int), 2, 1, 0, 0, 0, 0,
  [[some (.iload_n 0, 0, 0, 0), some (.bipush 97, 0, 0, 0), none, some (.if_icmp .lt 11, 14, 0, 0), none, none, some (.iload_n 0, 0, 0, 0), some (.bipush 122, 0, 0, 0), none, some (.if_icmp .gt 5, 14, 0, 0), none, none, some (.iconst 1, 0, 0, 0), some (.ireturn, 0, 0, 0), some (.iload_n 0, 0, 0, 0), some (.bipush 48, 0, 0, 0)],
   [none, some (.if_icmp .lt 11, 28, 0, 0), none, none, some (.iload_n 0, 0, 0, 0), some (.bipush 57, 0, 0, 0), none, some (.if_icmp .gt 5, 28, 0, 0), none, none, some (.iconst 2, 0, 0, 0), some (.ireturn, 0, 0, 0), some (.iload_n 0, 0, 0, 0), some (.bipush 59, 0, 0, 0), none, some (.if_icmp .ne 7, 38, 0, 0)],
   [none, none, some (.iconst 3, 0, 0, 0), some (.goto 4, 39, 0, 0), none, none, some (.iconst 0, 0, 0, 0), some (.ireturn, 0, 0, 0)]])
def m_18 : pm_M := (⟨"MoodTown$Tape", "weighFigures", "()V"⟩, prog_4_method_6_code, 2, none, 2, 1, 0, 0, 0, 0,
  [[some (.aload_n 0, 0, 0, 0), some (.iconst 0, 0, 0, 0), some (.putfield 35, 2, 4, 0), none, none, some (.aload_n 0, 0, 0, 0), some (.getfield 22, 2, 3, 0), none, none, some (.istore_n 1, 0, 0, 0), some (.iload_n 1, 0, 0, 0), some (.aload_n 0, 0, 0, 0), some (.getfield 19, 2, 5, 0), none, none, some (.if_icmp .ge 30, 45, 0, 0)],
   [none, none, some (.aload_n 0, 0, 0, 0), some (.aload_n 0, 0, 0, 0), some (.getfield 35, 2, 4, 0), none, none, some (.bipush 10, 0, 0, 0), none, some (.imul, 0, 0, 0), some (.aload_n 0, 0, 0, 0), some (.getfield 9, 2, 0, 0), none, none, some (.iload_n 1, 0, 0, 0), some (.baload, 0, 0, 0)],
   [some (.iadd, 0, 0, 0), some (.bipush 48, 0, 0, 0), none, some (.isub, 0, 0, 0), some (.putfield 35, 2, 4, 0), none, none, some (.iinc 1 1, 0, 0, 0), none, none, some (.goto (-32), 10, 0, 0), none, none, some (.aload_n 0, 0, 0, 0), some (.getfield 19, 2, 5, 0)],
   [none, some (.aload_n 0, 0, 0, 0), some (.getfield 22, 2, 3, 0), none, none, some (.isub, 0, 0, 0), some (.iconst 2, 0, 0, 0), some (.if_icmp .le 8, 63, 0, 0), none, none, some (.aload_n 0, 0, 0, 0), some (.iconst 0, 0, 0, 0), some (.putfield 25, 2, 2, 0), none, none, some (.return_, 0, 0, 0)]])
def m_19 : pm_M := (⟨"MoodTown$Telling", "takeLine", "()V"⟩, prog_5_method_4_code, 1, none, 3, 1, 5, 107, 0, 0,
  [[some (.aload_n 0, 0, 0, 0), some (.getfield 9, 3, 4, 0), none, none, some (.getfield 53, 2, 2, 0), none, none, some (.ifCond .ne 18, 25, 0, 0), none, none, some (.aload_n 0, 0, 0, 0), some (.iconst 1, 0, 0, 0), some (.aload_n 0, 0, 0, 0), some (.getfield 9, 3, 4, 0)],
   [some (.getfield 73, 2, 3, 0), none, none, some (.invokevirtual 69, 20, 0, 2), none, none, some (.goto 150, 172, 0, 0), none, none, some (.aload_n 0, 0, 0, 0), some (.getfield 9, 3, 4, 0), none, none, some (.ldc 76, 1, 0, 0), none, some (.invokevirtual 78, 21, 0, 1)],
   [none, none, some (.ifCond .eq 10, 44, 0, 0), none, none, some (.aload_n 0, 0, 0, 0), some (.invokevirtual 82, 22, 0, 0), none, none, some (.goto 131, 172, 0, 0), none, none, some (.aload_n 0, 0, 0, 0), some (.getfield 9, 3, 4, 0)],
   [some (.ldc 85, 1, 0, 0), none, some (.invokevirtual 78, 21, 0, 1), none, none, some (.ifCond .eq 10, 63, 0, 0), none, none, some (.aload_n 0, 0, 0, 0), some (.invokevirtual 87, 26, 0, 0), none, none, some (.goto 112, 172, 0, 0), none, none, some (.aload_n 0, 0, 0, 0)],
   [some (.getfield 9, 3, 4, 0), none, none, some (.ldc 90, 1, 0, 0), none, some (.invokevirtual 78, 21, 0, 1), none, none, some (.ifCond .eq 11, 83, 0, 0), none, none, some (.aload_n 0, 0, 0, 0), some (.iconst 0, 0, 0, 0), some (.invokevirtual 92, 31, 0, 1)],
   [some (.goto 92, 172, 0, 0), none, none, some (.aload_n 0, 0, 0, 0), some (.getfield 9, 3, 4, 0), none, none, some (.ldc 96, 1, 0, 0), none, some (.invokevirtual 78, 21, 0, 1), none, none, some (.ifCond .eq 11, 103, 0, 0), none, none, some (.aload_n 0, 0, 0, 0)],
   [some (.iconst 1, 0, 0, 0), some (.invokevirtual 92, 31, 0, 1), none, none, some (.goto 72, 172, 0, 0), none, none, some (.aload_n 0, 0, 0, 0), some (.getfield 9, 3, 4, 0), none, none, some (.ldc 98, 1, 0, 0), none, some (.invokevirtual 78, 21, 0, 1)],
   [some (.ifCond .eq 10, 122, 0, 0), none, none, some (.aload_n 0, 0, 0, 0), some (.invokevirtual 100, 33, 0, 0), none, none, some (.goto 53, 172, 0, 0), none, none, some (.aload_n 0, 0, 0, 0), some (.getfield 9, 3, 4, 0), none, none, some (.ldc 103, 1, 0, 0)],
   [some (.invokevirtual 78, 21, 0, 1), none, none, some (.ifCond .eq 10, 141, 0, 0), none, none, some (.aload_n 0, 0, 0, 0), some (.invokevirtual 105, 34, 0, 0), none, none, some (.goto 34, 172, 0, 0), none, none, some (.aload_n 0, 0, 0, 0), some (.getfield 9, 3, 4, 0)],
   [none, some (.ldc 108, 1, 0, 0), none, some (.invokevirtual 78, 21, 0, 1), none, none, some (.ifCond .eq 10, 160, 0, 0), none, none, some (.aload_n 0, 0, 0, 0), some (.invokevirtual 110, 35, 0, 0), none, none, some (.goto 15, 172, 0, 0)],
   [some (.aload_n 0, 0, 0, 0), some (.iconst 2, 0, 0, 0), some (.aload_n 0, 0, 0, 0), some (.getfield 9, 3, 4, 0), none, none, some (.getfield 73, 2, 3, 0), none, none, some (.invokevirtual 69, 20, 0, 2), none, none, some (.return_, 0, 0, 0)]])
def m_20 : pm_M := (⟨"MoodTown$Telling", "refuse", "(II)V"⟩, prog_5_method_3_code, 3, none, 3, 3, 0, 0, 0, 0,
  [[some (.aload_n 0, 0, 0, 0), some (.iload_n 1, 0, 0, 0), some (.putfield 29, 3, 2, 0), none, none, some (.aload_n 0, 0, 0, 0), some (.iload_n 2, 0, 0, 0), some (.putfield 32, 3, 3, 0), none, none, some (.return_, 0, 0, 0)]])
def m_21 : pm_M := (⟨"MoodTown$Tape", "isName", "(Ljava/lang/String;)Z"⟩, prog_4_method_7_code, 3, (some .boolean), 2, 2, 0, 0, 0, 0,
  [[some (.aload_n 0, 0, 0, 0), some (.getfield 25, 2, 2, 0), none, none, some (.iconst 1, 0, 0, 0), some (.if_icmp .ne 19, 24, 0, 0), none, none, some (.aload_n 0, 0, 0, 0), some (.getfield 19, 2, 5, 0), none, none, some (.aload_n 0, 0, 0, 0), some (.getfield 22, 2, 3, 0)],
   [some (.isub, 0, 0, 0), some (.aload_n 1, 0, 0, 0), some (.invokevirtual 38, 0, 7, 0), none, none, some (.if_icmp .eq 5, 26, 0, 0), none, none, some (.iconst 0, 0, 0, 0), some (.ireturn, 0, 0, 0), some (.iconst 0, 0, 0, 0), some (.istore_n 2, 0, 0, 0), some (.iload_n 2, 0, 0, 0), some (.aload_n 1, 0, 0, 0), some (.invokevirtual 38, 0, 7, 0)],
   [none, some (.if_icmp .ge 30, 63, 0, 0), none, none, some (.aload_n 0, 0, 0, 0), some (.getfield 9, 2, 0, 0), none, none, some (.aload_n 0, 0, 0, 0), some (.getfield 22, 2, 3, 0), none, none, some (.iload_n 2, 0, 0, 0), some (.iadd, 0, 0, 0), some (.baload, 0, 0, 0), some (.aload_n 1, 0, 0, 0)],
   [some (.iload_n 2, 0, 0, 0), some (.invokevirtual 43, 0, 7, 0), none, none, some (.if_icmp .eq 5, 57, 0, 0), none, none, some (.iconst 0, 0, 0, 0), some (.ireturn, 0, 0, 0), some (.iinc 2 1, 0, 0, 0), none, none, some (.goto (-32), 28, 0, 0), none, none, some (.iconst 1, 0, 0, 0)],
   [some (.ireturn, 0, 0, 0)]])
def m_22 : pm_M := (⟨"MoodTown$Telling", "takeTown", "()V"⟩, prog_5_method_10_code, 1, none, 3, 1, 4, 84, 0, 0,
  [[some (.aload_n 0, 0, 0, 0), some (.aload_n 0, 0, 0, 0), some (.getfield 35, 3, 5, 0), none, none, some (.invokevirtual 123, 23, 0, 1), none, none, some (.aload_n 0, 0, 0, 0), some (.iconst 1, 0, 0, 0), some (.putfield 35, 3, 5, 0), none, none, some (.aload_n 0, 0, 0, 0), some (.getfield 18, 3, 0, 0)],
   [none, some (.aload_n 0, 0, 0, 0), some (.iconst 2, 0, 0, 0), some (.iconst 5, 0, 0, 0), some (.invokevirtual 127, 24, 0, 2), none, none, some (.putfield 131, 4, 0, 0), none, none, some (.aload_n 0, 0, 0, 0), some (.getfield 18, 3, 0, 0), none, none, some (.aload_n 0, 0, 0, 0), some (.iconst 2, 0, 0, 0)],
   [some (.iconst 5, 0, 0, 0), some (.invokevirtual 127, 24, 0, 2), none, none, some (.putfield 134, 4, 1, 0), none, none, some (.return_, 0, 0, 0)]])
def m_23 : pm_M := (⟨"MoodTown$Telling", "refuseSecond", "(Z)V"⟩, prog_5_method_9_code, 2, none, 3, 2, 1, 22, 0, 0,
  [[some (.iload_n 1, 0, 0, 0), some (.ifCond .eq 15, 16, 0, 0), none, none, some (.aload_n 0, 0, 0, 0), some (.iconst 4, 0, 0, 0), some (.aload_n 0, 0, 0, 0), some (.getfield 9, 3, 4, 0), none, none, some (.getfield 73, 2, 3, 0), none, none, some (.invokevirtual 69, 20, 0, 2)],
   [some (.return_, 0, 0, 0)]])
def m_24 : pm_M := (⟨"MoodTown$Telling", "takeNumber", "(II)I"⟩, prog_5_method_7_code, 3, (some .int), 3, 3, 3, 62, 0, 0,
  [[some (.aload_n 0, 0, 0, 0), some (.iconst 2, 0, 0, 0), some (.invokevirtual 113, 25, 0, 1), none, none, some (.ifCond .ne 5, 10, 0, 0), none, none, some (.iconst 0, 0, 0, 0), some (.ireturn, 0, 0, 0), some (.aload_n 0, 0, 0, 0), some (.getfield 9, 3, 4, 0), none, none, some (.getfield 117, 2, 4, 0)],
   [none, some (.iload_n 1, 0, 0, 0), some (.if_icmp .lt 14, 32, 0, 0), none, none, some (.aload_n 0, 0, 0, 0), some (.getfield 9, 3, 4, 0), none, none, some (.getfield 117, 2, 4, 0), none, none, some (.iload_n 2, 0, 0, 0), some (.if_icmp .le 17, 46, 0, 0)],
   [some (.aload_n 0, 0, 0, 0), some (.iconst 3, 0, 0, 0), some (.aload_n 0, 0, 0, 0), some (.getfield 9, 3, 4, 0), none, none, some (.getfield 73, 2, 3, 0), none, none, some (.invokevirtual 69, 20, 0, 2), none, none, some (.iconst 0, 0, 0, 0), some (.ireturn, 0, 0, 0), some (.aload_n 0, 0, 0, 0), some (.getfield 9, 3, 4, 0)],
   [none, none, some (.getfield 117, 2, 4, 0), none, none, some (.ireturn, 0, 0, 0)]])
def m_25 : pm_M := (⟨"MoodTown$Telling", "takeToken", "(I)Z"⟩, prog_5_method_5_code, 2, (some .boolean), 3, 2, 2, 41, 0, 0,
  [[some (.aload_n 0, 0, 0, 0), some (.getfield 29, 3, 2, 0), none, none, some (.ifCond .eq 5, 9, 0, 0), none, none, some (.iconst 0, 0, 0, 0), some (.ireturn, 0, 0, 0), some (.aload_n 0, 0, 0, 0), some (.getfield 9, 3, 4, 0), none, none, some (.invokevirtual 50, 16, 0, 0)],
   [some (.aload_n 0, 0, 0, 0), some (.getfield 9, 3, 4, 0), none, none, some (.getfield 53, 2, 2, 0), none, none, some (.iload_n 1, 0, 0, 0), some (.if_icmp .ne 5, 29, 0, 0), none, none, some (.iconst 1, 0, 0, 0), some (.ireturn, 0, 0, 0), some (.aload_n 0, 0, 0, 0), some (.aload_n 0, 0, 0, 0), some (.getfield 9, 3, 4, 0)],
   [none, none, some (.getfield 53, 2, 2, 0), none, none, some (.ifCond .ne 7, 44, 0, 0), none, none, some (.iconst 1, 0, 0, 0), some (.goto 4, 45, 0, 0), none, none, some (.iconst 2, 0, 0, 0), some (.aload_n 0, 0, 0, 0), some (.getfield 9, 3, 4, 0)],
   [none, some (.getfield 73, 2, 3, 0), none, none, some (.invokevirtual 69, 20, 0, 2), none, none, some (.iconst 0, 0, 0, 0), some (.ireturn, 0, 0, 0)]])
def m_26 : pm_M := (⟨"MoodTown$Telling", "takeWall", "()V"⟩, prog_5_method_11_code, 2, none, 3, 1, 4, 84, 0, 0,
  [[some (.aload_n 0, 0, 0, 0), some (.iconst 0, 0, 0, 0), some (.bipush 24, 0, 0, 0), none, some (.invokevirtual 127, 24, 0, 2), none, none, some (.istore_n 1, 0, 0, 0), some (.aload_n 0, 0, 0, 0), some (.iload_n 1, 0, 0, 0), some (.invokevirtual 137, 27, 0, 1), none, none, some (.aload_n 0, 0, 0, 0), some (.getfield 18, 3, 0, 0)],
   [none, some (.dup, 0, 0, 0), some (.getfield 140, 4, 2, 0), none, none, some (.iconst 1, 0, 0, 0), some (.iload_n 1, 0, 0, 0), some (.ishl, 0, 0, 0), some (.ior, 0, 0, 0), some (.putfield 140, 4, 2, 0), none, none, some (.return_, 0, 0, 0)]])
def m_27 : pm_M := (⟨"MoodTown$Telling", "refuseTaken", "(I)V"⟩, prog_5_method_8_code, 2, none, 3, 2, 2, 43, 0, 0,
  [[some (.aload_n 0, 0, 0, 0), some (.getfield 29, 3, 2, 0), none, none, some (.ifCond .ne 26, 30, 0, 0), none, none, some (.aload_n 0, 0, 0, 0), some (.getfield 18, 3, 0, 0), none, none, some (.iload_n 1, 0, 0, 0), some (.invokevirtual 120, 28, 0, 1), none, none, some (.ifCond .ne 15, 30, 0, 0)],
   [none, none, some (.aload_n 0, 0, 0, 0), some (.iconst 4, 0, 0, 0), some (.aload_n 0, 0, 0, 0), some (.getfield 9, 3, 4, 0), none, none, some (.getfield 73, 2, 3, 0), none, none, some (.invokevirtual 69, 20, 0, 2), none, none, some (.return_, 0, 0, 0)]])
def m_28 : pm_M := (⟨"MoodTown$Town", "isFree", "(I)Z"⟩, prog_6_method_10_code, 2, (some .boolean), 4, 2, 1, 22, 0, 0,
  [[some (.aload_n 0, 0, 0, 0), some (.iload_n 1, 0, 0, 0), some (.invokevirtual 78, 29, 0, 1), none, none, some (.ifCond .ne 17, 22, 0, 0), none, none, some (.aload_n 0, 0, 0, 0), some (.iload_n 1, 0, 0, 0), some (.invokevirtual 82, 30, 0, 1), none, none, some (.bipush (-4), 0, 0, 0), none, some (.if_icmp .ne 7, 22, 0, 0)],
   [none, none, some (.iconst 1, 0, 0, 0), some (.goto 4, 23, 0, 0), none, none, some (.iconst 0, 0, 0, 0), some (.ireturn, 0, 0, 0)]])
def m_29 : pm_M := (⟨"MoodTown$Town", "hasWall", "(I)Z"⟩, prog_6_method_8_code, 2, (some .boolean), 4, 2, 0, 0, 0, 0,
  [[some (.aload_n 0, 0, 0, 0), some (.getfield 43, 4, 2, 0), none, none, some (.iload_n 1, 0, 0, 0), some (.ishr, 0, 0, 0), some (.iconst 1, 0, 0, 0), some (.iand, 0, 0, 0), some (.ifCond .eq 7, 15, 0, 0), none, none, some (.iconst 1, 0, 0, 0), some (.goto 4, 16, 0, 0), none, none, some (.iconst 0, 0, 0, 0)],
   [some (.ireturn, 0, 0, 0)]])
def m_30 : pm_M := (⟨"MoodTown$Town", "whoIsIn", "(I)I"⟩, prog_6_method_9_code, 3, (some .int), 4, 2, 0, 0, 0, 0,
  [[some (.iconst 0, 0, 0, 0), some (.istore_n 2, 0, 0, 0), some (.iload_n 2, 0, 0, 0), some (.aload_n 0, 0, 0, 0), some (.getfield 46, 4, 3, 0), none, none, some (.if_icmp .ge 21, 28, 0, 0), none, none, some (.aload_n 0, 0, 0, 0), some (.getfield 9, 4, 7, 0), none, none, some (.iload_n 2, 0, 0, 0), some (.iaload, 0, 0, 0)],
   [some (.iload_n 1, 0, 0, 0), some (.if_icmp .ne 5, 22, 0, 0), none, none, some (.iload_n 2, 0, 0, 0), some (.ireturn, 0, 0, 0), some (.iinc 2 1, 0, 0, 0), none, none, some (.goto (-23), 2, 0, 0), none, none, some (.bipush (-4), 0, 0, 0), none, some (.ireturn, 0, 0, 0)]])
def m_31 : pm_M := (⟨"MoodTown$Telling", "takeOne", "(I)V"⟩, prog_5_method_12_code, 4, none, 3, 2, 4, 84, 0, 0,
  [[some (.aload_n 0, 0, 0, 0), some (.getfield 18, 3, 0, 0), none, none, some (.getfield 143, 4, 3, 0), none, none, some (.iconst 5, 0, 0, 0), some (.if_icmp .lt 16, 24, 0, 0), none, none, some (.aload_n 0, 0, 0, 0), some (.iconst 5, 0, 0, 0), some (.aload_n 0, 0, 0, 0), some (.getfield 9, 3, 4, 0)],
   [none, some (.getfield 73, 2, 3, 0), none, none, some (.invokevirtual 69, 20, 0, 2), none, none, some (.return_, 0, 0, 0), some (.aload_n 0, 0, 0, 0), some (.iconst 0, 0, 0, 0), some (.bipush 24, 0, 0, 0), none, some (.invokevirtual 127, 24, 0, 2), none, none, some (.istore_n 2, 0, 0, 0)],
   [some (.aload_n 0, 0, 0, 0), some (.iload_n 2, 0, 0, 0), some (.invokevirtual 137, 27, 0, 1), none, none, some (.aload_n 0, 0, 0, 0), some (.iconst 0, 0, 0, 0), some (.iconst 3, 0, 0, 0), some (.invokevirtual 127, 24, 0, 2), none, none, some (.istore_n 3, 0, 0, 0), some (.aload_n 0, 0, 0, 0), some (.getfield 18, 3, 0, 0)],
   [some (.iload_n 2, 0, 0, 0), some (.iload_n 3, 0, 0, 0), some (.iload_n 1, 0, 0, 0), some (.invokevirtual 146, 32, 0, 3), none, none, some (.return_, 0, 0, 0)]])
def m_32 : pm_M := (⟨"MoodTown$Town", "addOne", "(III)V"⟩, prog_6_method_15_code, 4, none, 4, 4, 0, 0, 0, 0,
  [[some (.aload_n 0, 0, 0, 0), some (.getfield 46, 4, 3, 0), none, none, some (.aload_n 0, 0, 0, 0), some (.getfield 9, 4, 7, 0), none, none, some (.arraylength, 0, 0, 0), some (.if_icmp .ge 43, 52, 0, 0), none, none, some (.aload_n 0, 0, 0, 0), some (.getfield 9, 4, 7, 0)],
   [some (.aload_n 0, 0, 0, 0), some (.getfield 46, 4, 3, 0), none, none, some (.iload_n 1, 0, 0, 0), some (.iastore, 0, 0, 0), some (.aload_n 0, 0, 0, 0), some (.getfield 15, 4, 8, 0), none, none, some (.aload_n 0, 0, 0, 0), some (.getfield 46, 4, 3, 0), none, none, some (.iload_n 2, 0, 0, 0), some (.iastore, 0, 0, 0)],
   [some (.aload_n 0, 0, 0, 0), some (.getfield 18, 4, 9, 0), none, none, some (.aload_n 0, 0, 0, 0), some (.getfield 46, 4, 3, 0), none, none, some (.iload_n 3, 0, 0, 0), some (.iastore, 0, 0, 0), some (.aload_n 0, 0, 0, 0), some (.dup, 0, 0, 0), some (.getfield 46, 4, 3, 0), none, none, some (.iconst 1, 0, 0, 0)],
   [some (.iadd, 0, 0, 0), some (.putfield 46, 4, 3, 0), none, none, some (.return_, 0, 0, 0)]])
def m_33 : pm_M := (⟨"MoodTown$Telling", "takePull", "()V"⟩, prog_5_method_13_code, 2, none, 3, 1, 4, 84, 0, 0,
  [[some (.aload_n 0, 0, 0, 0), some (.aload_n 0, 0, 0, 0), some (.getfield 39, 3, 6, 0), none, none, some (.invokevirtual 123, 23, 0, 1), none, none, some (.aload_n 0, 0, 0, 0), some (.iconst 1, 0, 0, 0), some (.putfield 39, 3, 6, 0), none, none, some (.iconst 1, 0, 0, 0), some (.istore_n 1, 0, 0, 0), some (.iload_n 1, 0, 0, 0)],
   [some (.iconst 4, 0, 0, 0), some (.if_icmp .gt 25, 42, 0, 0), none, none, some (.aload_n 0, 0, 0, 0), some (.getfield 18, 3, 0, 0), none, none, some (.getfield 150, 4, 11, 0), none, none, some (.iload_n 1, 0, 0, 0), some (.aload_n 0, 0, 0, 0), some (.iconst 0, 0, 0, 0), some (.bipush 9, 0, 0, 0)],
   [some (.invokevirtual 127, 24, 0, 2), none, none, some (.iastore, 0, 0, 0), some (.iinc 1 1, 0, 0, 0), none, none, some (.goto (-24), 15, 0, 0), none, none, some (.return_, 0, 0, 0)]])
def m_34 : pm_M := (⟨"MoodTown$Telling", "takePress", "()V"⟩, prog_5_method_14_code, 1, none, 3, 1, 4, 84, 0, 0,
  [[some (.aload_n 0, 0, 0, 0), some (.aload_n 0, 0, 0, 0), some (.getfield 42, 3, 7, 0), none, none, some (.invokevirtual 123, 23, 0, 1), none, none, some (.aload_n 0, 0, 0, 0), some (.iconst 1, 0, 0, 0), some (.putfield 42, 3, 7, 0), none, none, some (.aload_n 0, 0, 0, 0), some (.getfield 18, 3, 0, 0)],
   [none, some (.aload_n 0, 0, 0, 0), some (.iconst 0, 0, 0, 0), some (.iconst 4, 0, 0, 0), some (.invokevirtual 127, 24, 0, 2), none, none, some (.putfield 154, 4, 4, 0), none, none, some (.return_, 0, 0, 0)]])
def m_35 : pm_M := (⟨"MoodTown$Telling", "takeGoal", "()V"⟩, prog_5_method_15_code, 3, none, 3, 1, 4, 84, 0, 0,
  [[some (.aload_n 0, 0, 0, 0), some (.iconst 0, 0, 0, 0), some (.iconst 4, 0, 0, 0), some (.invokevirtual 127, 24, 0, 2), none, none, some (.istore_n 1, 0, 0, 0), some (.aload_n 0, 0, 0, 0), some (.getfield 29, 3, 2, 0), none, none, some (.ifCond .ne 29, 40, 0, 0), none, none, some (.aload_n 0, 0, 0, 0), some (.getfield 18, 3, 0, 0)],
   [none, none, some (.getfield 156, 4, 10, 0), none, none, some (.iload_n 1, 0, 0, 0), some (.iaload, 0, 0, 0), some (.bipush (-4), 0, 0, 0), none, some (.if_icmp .eq 15, 40, 0, 0), none, none, some (.aload_n 0, 0, 0, 0), some (.iconst 4, 0, 0, 0), some (.aload_n 0, 0, 0, 0), some (.getfield 9, 3, 4, 0)],
   [none, none, some (.getfield 73, 2, 3, 0), none, none, some (.invokevirtual 69, 20, 0, 2), none, none, some (.aload_n 0, 0, 0, 0), some (.iconst 0, 0, 0, 0), some (.bipush 24, 0, 0, 0), none, some (.invokevirtual 127, 24, 0, 2), none, none, some (.istore_n 2, 0, 0, 0)],
   [some (.aload_n 0, 0, 0, 0), some (.getfield 29, 3, 2, 0), none, none, some (.ifCond .ne 13, 65, 0, 0), none, none, some (.aload_n 0, 0, 0, 0), some (.getfield 18, 3, 0, 0), none, none, some (.getfield 156, 4, 10, 0), none, none, some (.iload_n 1, 0, 0, 0), some (.iload_n 2, 0, 0, 0)],
   [some (.iastore, 0, 0, 0), some (.return_, 0, 0, 0)]])
def m_36 : pm_M := (⟨"MoodTown$Telling", "takeStop", "()V"⟩, prog_5_method_6_code, 1, none, 3, 1, 3, 62, 0, 0,
  [[some (.aload_n 0, 0, 0, 0), some (.iconst 3, 0, 0, 0), some (.invokevirtual 113, 25, 0, 1), none, none, some (.pop, 0, 0, 0), some (.return_, 0, 0, 0)]])
def m_37 : pm_M := (⟨"MoodTown$Telling", "namesWhatIsNot", "()Z"⟩, prog_5_method_16_code, 2, (some .boolean), 3, 1, 2, 41, 0, 0,
  [[some (.iconst 0, 0, 0, 0), some (.istore_n 1, 0, 0, 0), some (.iload_n 1, 0, 0, 0), some (.aload_n 0, 0, 0, 0), some (.getfield 18, 3, 0, 0), none, none, some (.getfield 143, 4, 3, 0), none, none, some (.if_icmp .ge 30, 40, 0, 0), none, none, some (.aload_n 0, 0, 0, 0), some (.getfield 18, 3, 0, 0)],
   [none, some (.aload_n 0, 0, 0, 0), some (.getfield 18, 3, 0, 0), none, none, some (.getfield 159, 4, 7, 0), none, none, some (.iload_n 1, 0, 0, 0), some (.iaload, 0, 0, 0), some (.invokevirtual 162, 38, 0, 1), none, none, some (.ifCond .ne 5, 34, 0, 0)],
   [some (.iconst 1, 0, 0, 0), some (.ireturn, 0, 0, 0), some (.iinc 1 1, 0, 0, 0), none, none, some (.goto (-35), 2, 0, 0), none, none, some (.iconst 0, 0, 0, 0), some (.istore_n 1, 0, 0, 0), some (.iload_n 1, 0, 0, 0), some (.iconst 5, 0, 0, 0), some (.if_icmp .ge 55, 99, 0, 0), none, none, some (.aload_n 0, 0, 0, 0)],
   [some (.getfield 18, 3, 0, 0), none, none, some (.getfield 156, 4, 10, 0), none, none, some (.iload_n 1, 0, 0, 0), some (.iaload, 0, 0, 0), some (.bipush (-4), 0, 0, 0), none, some (.if_icmp .eq 35, 93, 0, 0), none, none, some (.aload_n 0, 0, 0, 0), some (.getfield 18, 3, 0, 0)],
   [none, some (.iload_n 1, 0, 0, 0), some (.invokevirtual 165, 40, 0, 1), none, none, some (.ifCond .eq 22, 91, 0, 0), none, none, some (.aload_n 0, 0, 0, 0), some (.getfield 18, 3, 0, 0), none, none, some (.aload_n 0, 0, 0, 0), some (.getfield 18, 3, 0, 0)],
   [some (.getfield 156, 4, 10, 0), none, none, some (.iload_n 1, 0, 0, 0), some (.iaload, 0, 0, 0), some (.invokevirtual 162, 38, 0, 1), none, none, some (.ifCond .ne 5, 93, 0, 0), none, none, some (.iconst 1, 0, 0, 0), some (.ireturn, 0, 0, 0), some (.iinc 1 1, 0, 0, 0)],
   [some (.goto (-54), 42, 0, 0), none, none, some (.aload_n 0, 0, 0, 0), some (.getfield 18, 3, 0, 0), none, none, some (.getfield 140, 4, 2, 0), none, none, some (.aload_n 0, 0, 0, 0), some (.getfield 18, 3, 0, 0), none, none, some (.invokevirtual 168, 39, 0, 0)],
   [none, some (.ishr, 0, 0, 0), some (.ifCond .eq 7, 121, 0, 0), none, none, some (.iconst 1, 0, 0, 0), some (.goto 4, 122, 0, 0), none, none, some (.iconst 0, 0, 0, 0), some (.ireturn, 0, 0, 0)]])
def m_38 : pm_M := (⟨"MoodTown$Town", "hasCell", "(I)Z"⟩, prog_6_method_7_code, 2, (some .boolean), 4, 2, 1, 20, 0, 0,
  [[some (.iload_n 1, 0, 0, 0), some (.ifCond .lt 15, 16, 0, 0), none, none, some (.iload_n 1, 0, 0, 0), some (.aload_n 0, 0, 0, 0), some (.invokevirtual 74, 39, 0, 0), none, none, some (.if_icmp .ge 7, 16, 0, 0), none, none, some (.iconst 1, 0, 0, 0), some (.goto 4, 17, 0, 0)],
   [some (.iconst 0, 0, 0, 0), some (.ireturn, 0, 0, 0)]])
def m_39 : pm_M := (⟨"MoodTown$Town", "size", "()I"⟩, prog_6_method_5_code, 1, (some .int), 4, 1, 0, 0, 0, 0,
  [[some (.aload_n 0, 0, 0, 0), some (.getfield 36, 4, 0, 0), none, none, some (.aload_n 0, 0, 0, 0), some (.getfield 40, 4, 1, 0), none, none, some (.imul, 0, 0, 0), some (.ireturn, 0, 0, 0)]])
def m_40 : pm_M := (⟨"MoodTown$Town", "hasOne", "(I)Z"⟩, prog_6_method_6_code, 2, (some .boolean), 4, 2, 0, 0, 0, 0,
  [[some (.iload_n 1, 0, 0, 0), some (.ifCond .lt 15, 16, 0, 0), none, none, some (.iload_n 1, 0, 0, 0), some (.aload_n 0, 0, 0, 0), some (.getfield 46, 4, 3, 0), none, none, some (.if_icmp .ge 7, 16, 0, 0), none, none, some (.iconst 1, 0, 0, 0), some (.goto 4, 17, 0, 0)],
   [some (.iconst 0, 0, 0, 0), some (.ireturn, 0, 0, 0)]])
def m_41 : pm_M := (⟨"MoodTown$Town", "copyFrom", "(LMoodTown$Town;)V"⟩, prog_6_method_3_code, 2, none, 4, 2, 2, 47, 0, 0,
  [[some (.aload_n 0, 0, 0, 0), some (.aload_n 1, 0, 0, 0), some (.getfield 36, 4, 0, 0), none, none, some (.putfield 36, 4, 0, 0), none, none, some (.aload_n 0, 0, 0, 0), some (.aload_n 1, 0, 0, 0), some (.getfield 40, 4, 1, 0), none, none, some (.putfield 40, 4, 1, 0)],
   [some (.aload_n 0, 0, 0, 0), some (.aload_n 1, 0, 0, 0), some (.getfield 43, 4, 2, 0), none, none, some (.putfield 43, 4, 2, 0), none, none, some (.aload_n 0, 0, 0, 0), some (.aload_n 1, 0, 0, 0), some (.getfield 46, 4, 3, 0), none, none, some (.putfield 46, 4, 3, 0)],
   [some (.aload_n 0, 0, 0, 0), some (.aload_n 1, 0, 0, 0), some (.getfield 49, 4, 4, 0), none, none, some (.putfield 49, 4, 4, 0), none, none, some (.aload_n 0, 0, 0, 0), some (.aload_n 1, 0, 0, 0), some (.getfield 52, 4, 5, 0), none, none, some (.putfield 52, 4, 5, 0)],
   [some (.aload_n 0, 0, 0, 0), some (.aload_n 1, 0, 0, 0), some (.getfield 55, 4, 6, 0), none, none, some (.putfield 55, 4, 6, 0), none, none, some (.aload_n 0, 0, 0, 0), some (.aload_n 1, 0, 0, 0), some (.invokevirtual 64, 42, 0, 1), none, none, some (.aload_n 1, 0, 0, 0), some (.getfield 18, 4, 9, 0)],
   [none, some (.iconst 0, 0, 0, 0), some (.aload_n 0, 0, 0, 0), some (.getfield 18, 4, 9, 0), none, none, some (.iconst 0, 0, 0, 0), some (.aload_n 0, 0, 0, 0), some (.getfield 18, 4, 9, 0), none, none, some (.arraylength, 0, 0, 0), some (.invokestatic 68, 0, 8, 0), none, none, some (.aload_n 1, 0, 0, 0)],
   [some (.getfield 21, 4, 10, 0), none, none, some (.iconst 0, 0, 0, 0), some (.aload_n 0, 0, 0, 0), some (.getfield 21, 4, 10, 0), none, none, some (.iconst 0, 0, 0, 0), some (.aload_n 0, 0, 0, 0), some (.getfield 21, 4, 10, 0), none, none, some (.arraylength, 0, 0, 0), some (.invokestatic 68, 0, 8, 0)],
   [none, some (.aload_n 1, 0, 0, 0), some (.getfield 24, 4, 11, 0), none, none, some (.iconst 0, 0, 0, 0), some (.aload_n 0, 0, 0, 0), some (.getfield 24, 4, 11, 0), none, none, some (.iconst 0, 0, 0, 0), some (.aload_n 0, 0, 0, 0), some (.getfield 24, 4, 11, 0), none, none, some (.arraylength, 0, 0, 0)],
   [some (.invokestatic 68, 0, 8, 0), none, none, some (.aload_n 1, 0, 0, 0), some (.getfield 27, 4, 12, 0), none, none, some (.iconst 0, 0, 0, 0), some (.aload_n 0, 0, 0, 0), some (.getfield 27, 4, 12, 0), none, none, some (.iconst 0, 0, 0, 0), some (.aload_n 0, 0, 0, 0), some (.getfield 27, 4, 12, 0)],
   [none, some (.arraylength, 0, 0, 0), some (.invokestatic 68, 0, 8, 0), none, none, some (.aload_n 1, 0, 0, 0), some (.getfield 30, 4, 13, 0), none, none, some (.iconst 0, 0, 0, 0), some (.aload_n 0, 0, 0, 0), some (.getfield 30, 4, 13, 0), none, none, some (.iconst 0, 0, 0, 0), some (.aload_n 0, 0, 0, 0)],
   [some (.getfield 30, 4, 13, 0), none, none, some (.arraylength, 0, 0, 0), some (.invokestatic 68, 0, 8, 0), none, none, some (.return_, 0, 0, 0)]])
def m_42 : pm_M := (⟨"MoodTown$Town", "copyPlacesFrom", "(LMoodTown$Town;)V"⟩, prog_6_method_4_code, 2, none, 4, 2, 1, 26, 0, 0,
  [[some (.aload_n 1, 0, 0, 0), some (.getfield 9, 4, 7, 0), none, none, some (.iconst 0, 0, 0, 0), some (.aload_n 0, 0, 0, 0), some (.getfield 9, 4, 7, 0), none, none, some (.iconst 0, 0, 0, 0), some (.aload_n 0, 0, 0, 0), some (.getfield 9, 4, 7, 0), none, none, some (.arraylength, 0, 0, 0), some (.invokestatic 68, 0, 8, 0)],
   [none, none, some (.aload_n 1, 0, 0, 0), some (.getfield 15, 4, 8, 0), none, none, some (.iconst 0, 0, 0, 0), some (.aload_n 0, 0, 0, 0), some (.getfield 15, 4, 8, 0), none, none, some (.iconst 0, 0, 0, 0), some (.aload_n 0, 0, 0, 0), some (.getfield 15, 4, 8, 0)],
   [some (.arraylength, 0, 0, 0), some (.invokestatic 68, 0, 8, 0), none, none, some (.return_, 0, 0, 0)]])
def m_43 : pm_M := (⟨"MoodTown", "fault", "()I"⟩, prog_1_method_5_code, 1, (some .int), 6, 1, 0, 0, 0, 0,
  [[some (.aload_n 0, 0, 0, 0), some (.getfield 21, 6, 1, 0), none, none, some (.getfield 70, 3, 2, 0), none, none, some (.ireturn, 0, 0, 0)]])
def m_44 : pm_M := (⟨"MoodTown", "rule", "(I)I"⟩, prog_1_method_6_code, 3, (some .int), 6, 2, 0, 0, 0, 0,
  [[some (.iload_n 1, 0, 0, 0), some (.tableswitch 87 0 5 #[39, 47, 55, 63, 71, 79], 0, 0, 0)],
   [],
   [none, none, none, none, none, none, none, none, some (.aload_n 0, 0, 0, 0), some (.getfield 28, 6, 2, 0), none, none, some (.getfield 89, 4, 0, 0), none, none, some (.ireturn, 0, 0, 0)],
   [some (.aload_n 0, 0, 0, 0), some (.getfield 28, 6, 2, 0), none, none, some (.getfield 92, 4, 1, 0), none, none, some (.ireturn, 0, 0, 0), some (.aload_n 0, 0, 0, 0), some (.getfield 28, 6, 2, 0), none, none, some (.getfield 95, 4, 2, 0), none, none, some (.ireturn, 0, 0, 0)],
   [some (.aload_n 0, 0, 0, 0), some (.getfield 28, 6, 2, 0), none, none, some (.getfield 98, 4, 3, 0), none, none, some (.ireturn, 0, 0, 0), some (.aload_n 0, 0, 0, 0), some (.getfield 28, 6, 2, 0), none, none, some (.getfield 101, 4, 4, 0), none, none, some (.ireturn, 0, 0, 0)],
   [some (.aload_n 0, 0, 0, 0), some (.getfield 28, 6, 2, 0), none, none, some (.getfield 104, 4, 5, 0), none, none, some (.ireturn, 0, 0, 0), some (.iload_n 1, 0, 0, 0), some (.bipush 10, 0, 0, 0), none, some (.isub, 0, 0, 0), some (.istore_n 2, 0, 0, 0), some (.iload_n 1, 0, 0, 0), some (.bipush 10, 0, 0, 0)],
   [some (.if_icmp .le 20, 116, 0, 0), none, none, some (.iload_n 2, 0, 0, 0), some (.iconst 4, 0, 0, 0), some (.if_icmp .gt 15, 116, 0, 0), none, none, some (.aload_n 0, 0, 0, 0), some (.getfield 28, 6, 2, 0), none, none, some (.getfield 107, 4, 11, 0), none, none, some (.iload_n 2, 0, 0, 0)],
   [some (.iaload, 0, 0, 0), some (.goto 4, 117, 0, 0), none, none, some (.iconst (-1), 0, 0, 0), some (.ireturn, 0, 0, 0)]])
def m_45 : pm_M := (⟨"MoodTown", "one", "(II)I"⟩, prog_1_method_7_code, 3, (some .int), 6, 3, 1, 21, 0, 0,
  [[some (.aload_n 0, 0, 0, 0), some (.getfield 28, 6, 2, 0), none, none, some (.iload_n 1, 0, 0, 0), some (.invokevirtual 111, 40, 0, 1), none, none, some (.ifCond .ne 5, 13, 0, 0), none, none, some (.iconst (-1), 0, 0, 0), some (.ireturn, 0, 0, 0), some (.iload_n 2, 0, 0, 0), some (.tableswitch 70 0 3 #[30, 40, 50, 60], 0, 0, 0)],
   [],
   [none, none, none, none, none, none, none, none, none, none, none, none, some (.aload_n 0, 0, 0, 0), some (.getfield 28, 6, 2, 0)],
   [some (.getfield 114, 4, 7, 0), none, none, some (.iload_n 1, 0, 0, 0), some (.iaload, 0, 0, 0), some (.ireturn, 0, 0, 0), some (.aload_n 0, 0, 0, 0), some (.getfield 28, 6, 2, 0), none, none, some (.getfield 117, 4, 8, 0), none, none, some (.iload_n 1, 0, 0, 0), some (.iaload, 0, 0, 0), some (.ireturn, 0, 0, 0)],
   [some (.aload_n 0, 0, 0, 0), some (.getfield 28, 6, 2, 0), none, none, some (.getfield 120, 4, 9, 0), none, none, some (.iload_n 1, 0, 0, 0), some (.iaload, 0, 0, 0), some (.ireturn, 0, 0, 0), some (.aload_n 0, 0, 0, 0), some (.getfield 28, 6, 2, 0), none, none, some (.getfield 123, 4, 10, 0)],
   [none, some (.iload_n 1, 0, 0, 0), some (.iaload, 0, 0, 0), some (.ireturn, 0, 0, 0), some (.iconst (-1), 0, 0, 0), some (.ireturn, 0, 0, 0)]])
def m_46 : pm_M := (⟨"MoodTown", "cell", "(I)I"⟩, prog_1_method_8_code, 2, (some .int), 6, 2, 2, 41, 0, 0,
  [[some (.aload_n 0, 0, 0, 0), some (.getfield 28, 6, 2, 0), none, none, some (.iload_n 1, 0, 0, 0), some (.invokevirtual 126, 38, 0, 1), none, none, some (.ifCond .eq 14, 22, 0, 0), none, none, some (.aload_n 0, 0, 0, 0), some (.getfield 28, 6, 2, 0), none, none, some (.iload_n 1, 0, 0, 0)],
   [some (.invokevirtual 129, 30, 0, 1), none, none, some (.goto 4, 23, 0, 0), none, none, some (.iconst (-1), 0, 0, 0), some (.ireturn, 0, 0, 0)]])
def m_47 : pm_M := (⟨"MoodTown", "mood", "(II)I"⟩, prog_1_method_9_code, 4, (some .int), 6, 3, 1, 21, 0, 0,
  [[some (.aload_n 0, 0, 0, 0), some (.getfield 28, 6, 2, 0), none, none, some (.iload_n 1, 0, 0, 0), some (.invokevirtual 111, 40, 0, 1), none, none, some (.ifCond .eq 10, 18, 0, 0), none, none, some (.iload_n 2, 0, 0, 0), some (.invokestatic 133, 48, 2, 1), none, none, some (.ifCond .ne 5, 20, 0, 0)],
   [none, none, some (.iconst (-1), 0, 0, 0), some (.ireturn, 0, 0, 0), some (.aload_n 0, 0, 0, 0), some (.getfield 28, 6, 2, 0), none, none, some (.getfield 117, 4, 8, 0), none, none, some (.iload_n 1, 0, 0, 0), some (.iaload, 0, 0, 0), some (.istore_n 3, 0, 0, 0), some (.aload_n 0, 0, 0, 0), some (.getfield 28, 6, 2, 0)],
   [none, none, some (.getfield 117, 4, 8, 0), none, none, some (.iload_n 1, 0, 0, 0), some (.iload_n 2, 0, 0, 0), some (.iastore, 0, 0, 0), some (.iload_n 3, 0, 0, 0), some (.ireturn, 0, 0, 0)]])
def m_48 : pm_M := (⟨"MoodTown", "isMood", "(I)Z"⟩, prog_1_method_41_code, 1, (some .boolean), 6, 1, 0, 0, 0, 0,
  [[some (.iload_n 0, 0, 0, 0), some (.ifCond .lt 12, 13, 0, 0), none, none, some (.iload_n 0, 0, 0, 0), some (.iconst 3, 0, 0, 0), some (.if_icmp .gt 7, 13, 0, 0), none, none, some (.iconst 1, 0, 0, 0), some (.goto 4, 14, 0, 0), none, none, some (.iconst 0, 0, 0, 0), some (.ireturn, 0, 0, 0)]])
def m_49 : pm_M := (⟨"MoodTown", "put", "(II)I"⟩, prog_1_method_10_code, 4, (some .int), 6, 3, 3, 65, 0, 0,
  [[some (.aload_n 0, 0, 0, 0), some (.getfield 28, 6, 2, 0), none, none, some (.iload_n 1, 0, 0, 0), some (.invokevirtual 111, 40, 0, 1), none, none, some (.ifCond .eq 26, 34, 0, 0), none, none, some (.aload_n 0, 0, 0, 0), some (.getfield 28, 6, 2, 0), none, none, some (.iload_n 2, 0, 0, 0)],
   [some (.invokevirtual 126, 38, 0, 1), none, none, some (.ifCond .eq 15, 34, 0, 0), none, none, some (.aload_n 0, 0, 0, 0), some (.getfield 28, 6, 2, 0), none, none, some (.iload_n 1, 0, 0, 0), some (.iload_n 2, 0, 0, 0), some (.invokevirtual 136, 50, 0, 2), none, none, some (.ifCond .ne 5, 36, 0, 0)],
   [none, none, some (.iconst (-1), 0, 0, 0), some (.ireturn, 0, 0, 0), some (.aload_n 0, 0, 0, 0), some (.getfield 28, 6, 2, 0), none, none, some (.getfield 114, 4, 7, 0), none, none, some (.iload_n 1, 0, 0, 0), some (.iaload, 0, 0, 0), some (.istore_n 3, 0, 0, 0), some (.aload_n 0, 0, 0, 0), some (.getfield 28, 6, 2, 0)],
   [none, none, some (.getfield 114, 4, 7, 0), none, none, some (.iload_n 1, 0, 0, 0), some (.iload_n 2, 0, 0, 0), some (.iastore, 0, 0, 0), some (.iload_n 3, 0, 0, 0), some (.ireturn, 0, 0, 0)]])
def m_50 : pm_M := (⟨"MoodTown$Town", "canHold", "(II)Z"⟩, prog_6_method_11_code, 3, (some .boolean), 4, 3, 2, 43, 0, 0,
  [[some (.iload_n 2, 0, 0, 0), some (.aload_n 0, 0, 0, 0), some (.getfield 9, 4, 7, 0), none, none, some (.iload_n 1, 0, 0, 0), some (.iaload, 0, 0, 0), some (.if_icmp .eq 11, 18, 0, 0), none, none, some (.aload_n 0, 0, 0, 0), some (.iload_n 2, 0, 0, 0), some (.invokevirtual 86, 28, 0, 1), none, none, some (.ifCond .eq 7, 22, 0, 0)],
   [none, none, some (.iconst 1, 0, 0, 0), some (.goto 4, 23, 0, 0), none, none, some (.iconst 0, 0, 0, 0), some (.ireturn, 0, 0, 0)]])
def m_51 : pm_M := (⟨"MoodTown", "hold", "(IZ)I"⟩, prog_1_method_11_code, 4, (some .int), 6, 3, 1, 21, 0, 0,
  [[some (.aload_n 0, 0, 0, 0), some (.getfield 28, 6, 2, 0), none, none, some (.iload_n 1, 0, 0, 0), some (.invokevirtual 111, 40, 0, 1), none, none, some (.ifCond .ne 5, 13, 0, 0), none, none, some (.iconst (-1), 0, 0, 0), some (.ireturn, 0, 0, 0), some (.aload_n 0, 0, 0, 0), some (.getfield 28, 6, 2, 0)],
   [none, some (.getfield 120, 4, 9, 0), none, none, some (.iload_n 1, 0, 0, 0), some (.iaload, 0, 0, 0), some (.istore_n 3, 0, 0, 0), some (.aload_n 0, 0, 0, 0), some (.getfield 28, 6, 2, 0), none, none, some (.getfield 120, 4, 9, 0), none, none, some (.iload_n 1, 0, 0, 0), some (.iload_n 2, 0, 0, 0)],
   [some (.ifCond .eq 7, 39, 0, 0), none, none, some (.iconst 1, 0, 0, 0), some (.goto 4, 40, 0, 0), none, none, some (.iconst 0, 0, 0, 0), some (.iastore, 0, 0, 0), some (.iload_n 3, 0, 0, 0), some (.ireturn, 0, 0, 0)]])
def m_52 : pm_M := (⟨"MoodTown", "goal", "(II)I"⟩, prog_1_method_12_code, 4, (some .int), 6, 3, 2, 41, 0, 0,
  [[some (.aload_n 0, 0, 0, 0), some (.getfield 28, 6, 2, 0), none, none, some (.iload_n 1, 0, 0, 0), some (.invokevirtual 111, 40, 0, 1), none, none, some (.ifCond .eq 20, 28, 0, 0), none, none, some (.iload_n 2, 0, 0, 0), some (.bipush (-4), 0, 0, 0), none, some (.if_icmp .eq 16, 30, 0, 0)],
   [none, some (.aload_n 0, 0, 0, 0), some (.getfield 28, 6, 2, 0), none, none, some (.iload_n 2, 0, 0, 0), some (.invokevirtual 126, 38, 0, 1), none, none, some (.ifCond .ne 5, 30, 0, 0), none, none, some (.iconst (-1), 0, 0, 0), some (.ireturn, 0, 0, 0), some (.aload_n 0, 0, 0, 0), some (.getfield 28, 6, 2, 0)],
   [none, none, some (.getfield 123, 4, 10, 0), none, none, some (.iload_n 1, 0, 0, 0), some (.iaload, 0, 0, 0), some (.istore_n 3, 0, 0, 0), some (.aload_n 0, 0, 0, 0), some (.getfield 28, 6, 2, 0), none, none, some (.getfield 123, 4, 10, 0), none, none, some (.iload_n 1, 0, 0, 0)],
   [some (.iload_n 2, 0, 0, 0), some (.iastore, 0, 0, 0), some (.iload_n 3, 0, 0, 0), some (.ireturn, 0, 0, 0)]])
def m_53 : pm_M := (⟨"MoodTown", "wall", "(IZ)I"⟩, prog_1_method_13_code, 4, (some .int), 6, 3, 2, 41, 0, 0,
  [[some (.aload_n 0, 0, 0, 0), some (.getfield 28, 6, 2, 0), none, none, some (.iload_n 1, 0, 0, 0), some (.invokevirtual 126, 38, 0, 1), none, none, some (.ifCond .eq 16, 24, 0, 0), none, none, some (.aload_n 0, 0, 0, 0), some (.getfield 28, 6, 2, 0), none, none, some (.iload_n 1, 0, 0, 0)],
   [some (.invokevirtual 129, 30, 0, 1), none, none, some (.bipush (-4), 0, 0, 0), none, some (.if_icmp .eq 5, 26, 0, 0), none, none, some (.iconst (-1), 0, 0, 0), some (.ireturn, 0, 0, 0), some (.aload_n 0, 0, 0, 0), some (.getfield 28, 6, 2, 0), none, none, some (.iload_n 1, 0, 0, 0), some (.invokevirtual 140, 29, 0, 1)],
   [none, none, some (.ifCond .eq 7, 41, 0, 0), none, none, some (.iconst 1, 0, 0, 0), some (.goto 4, 42, 0, 0), none, none, some (.iconst 0, 0, 0, 0), some (.istore_n 3, 0, 0, 0), some (.aload_n 0, 0, 0, 0), some (.getfield 28, 6, 2, 0), none, none, some (.iload_n 2, 0, 0, 0)],
   [some (.ifCond .eq 17, 65, 0, 0), none, none, some (.aload_n 0, 0, 0, 0), some (.getfield 28, 6, 2, 0), none, none, some (.getfield 95, 4, 2, 0), none, none, some (.iconst 1, 0, 0, 0), some (.iload_n 1, 0, 0, 0), some (.ishl, 0, 0, 0), some (.ior, 0, 0, 0), some (.goto 16, 78, 0, 0)],
   [none, some (.aload_n 0, 0, 0, 0), some (.getfield 28, 6, 2, 0), none, none, some (.getfield 95, 4, 2, 0), none, none, some (.iconst 1, 0, 0, 0), some (.iload_n 1, 0, 0, 0), some (.ishl, 0, 0, 0), some (.iconst (-1), 0, 0, 0), some (.ixor, 0, 0, 0), some (.iand, 0, 0, 0), some (.putfield 95, 4, 2, 0)],
   [none, some (.iload_n 3, 0, 0, 0), some (.ireturn, 0, 0, 0)]])
def m_54 : pm_M := (⟨"MoodTown", "pull", "(II)I"⟩, prog_1_method_14_code, 4, (some .int), 6, 3, 0, 0, 0, 0,
  [[some (.iload_n 1, 0, 0, 0), some (.iconst 1, 0, 0, 0), some (.if_icmp .lt 18, 20, 0, 0), none, none, some (.iload_n 1, 0, 0, 0), some (.iconst 4, 0, 0, 0), some (.if_icmp .gt 13, 20, 0, 0), none, none, some (.iload_n 2, 0, 0, 0), some (.ifCond .lt 9, 20, 0, 0), none, none, some (.iload_n 2, 0, 0, 0), some (.bipush 9, 0, 0, 0)],
   [none, some (.if_icmp .le 5, 22, 0, 0), none, none, some (.iconst (-1), 0, 0, 0), some (.ireturn, 0, 0, 0), some (.aload_n 0, 0, 0, 0), some (.getfield 28, 6, 2, 0), none, none, some (.getfield 107, 4, 11, 0), none, none, some (.iload_n 1, 0, 0, 0), some (.iaload, 0, 0, 0), some (.istore_n 3, 0, 0, 0)],
   [some (.aload_n 0, 0, 0, 0), some (.getfield 28, 6, 2, 0), none, none, some (.getfield 107, 4, 11, 0), none, none, some (.iload_n 1, 0, 0, 0), some (.iload_n 2, 0, 0, 0), some (.iastore, 0, 0, 0), some (.iload_n 3, 0, 0, 0), some (.ireturn, 0, 0, 0)]])
def m_55 : pm_M := (⟨"MoodTown", "press", "(I)I"⟩, prog_1_method_15_code, 3, (some .int), 6, 2, 0, 0, 0, 0,
  [[some (.iload_n 1, 0, 0, 0), some (.ifCond .lt 8, 9, 0, 0), none, none, some (.iload_n 1, 0, 0, 0), some (.iconst 4, 0, 0, 0), some (.if_icmp .le 5, 11, 0, 0), none, none, some (.iconst (-1), 0, 0, 0), some (.ireturn, 0, 0, 0), some (.aload_n 0, 0, 0, 0), some (.getfield 28, 6, 2, 0), none, none, some (.getfield 101, 4, 4, 0)],
   [none, none, some (.istore_n 2, 0, 0, 0), some (.aload_n 0, 0, 0, 0), some (.getfield 28, 6, 2, 0), none, none, some (.iload_n 1, 0, 0, 0), some (.putfield 101, 4, 4, 0), none, none, some (.iload_n 2, 0, 0, 0), some (.ireturn, 0, 0, 0)]])
def m_56 : pm_M := (⟨"MoodTown", "force", "(II)I"⟩, prog_1_method_16_code, 3, (some .int), 6, 3, 3, 73, 0, 0,
  [[some (.aload_n 0, 0, 0, 0), some (.getfield 28, 6, 2, 0), none, none, some (.iload_n 1, 0, 0, 0), some (.invokevirtual 111, 40, 0, 1), none, none, some (.ifCond .eq 10, 18, 0, 0), none, none, some (.iload_n 2, 0, 0, 0), some (.invokestatic 143, 57, 2, 1), none, none, some (.ifCond .ne 5, 20, 0, 0)],
   [none, none, some (.iconst (-1), 0, 0, 0), some (.ireturn, 0, 0, 0), some (.aload_n 0, 0, 0, 0), some (.getfield 35, 6, 3, 0), none, none, some (.aload_n 0, 0, 0, 0), some (.getfield 28, 6, 2, 0), none, none, some (.invokevirtual 146, 58, 0, 1), none, none, some (.bipush 100, 0, 0, 0)],
   [none, some (.iload_n 2, 0, 0, 0), some (.ifCond .ne 15, 49, 0, 0), none, none, some (.aload_n 0, 0, 0, 0), some (.getfield 35, 6, 3, 0), none, none, some (.getfield 149, 5, 2, 0), none, none, some (.iload_n 1, 0, 0, 0), some (.iaload, 0, 0, 0), some (.goto 12, 58, 0, 0)],
   [none, some (.aload_n 0, 0, 0, 0), some (.getfield 35, 6, 3, 0), none, none, some (.getfield 152, 5, 3, 0), none, none, some (.iload_n 1, 0, 0, 0), some (.iaload, 0, 0, 0), some (.iadd, 0, 0, 0), some (.ireturn, 0, 0, 0)]])
def m_57 : pm_M := (⟨"MoodTown", "isHalf", "(I)Z"⟩, prog_1_method_42_code, 1, (some .boolean), 6, 1, 0, 0, 0, 0,
  [[some (.iload_n 0, 0, 0, 0), some (.ifCond .eq 8, 9, 0, 0), none, none, some (.iload_n 0, 0, 0, 0), some (.iconst 1, 0, 0, 0), some (.if_icmp .ne 7, 13, 0, 0), none, none, some (.iconst 1, 0, 0, 0), some (.goto 4, 14, 0, 0), none, none, some (.iconst 0, 0, 0, 0), some (.ireturn, 0, 0, 0)]])
def m_58 : pm_M := (⟨"MoodTown$Walk", "weigh", "(LMoodTown$Town;)V"⟩, prog_7_method_2_code, 4, none, 5, 2, 2, 50, 0, 0,
  [[some (.iconst 0, 0, 0, 0), some (.istore_n 2, 0, 0, 0), some (.iload_n 2, 0, 0, 0), some (.aload_n 1, 0, 0, 0), some (.getfield 27, 4, 3, 0), none, none, some (.if_icmp .ge 55, 62, 0, 0), none, none, some (.aload_n 0, 0, 0, 0), some (.getfield 9, 5, 0, 0), none, none, some (.iload_n 2, 0, 0, 0), some (.aload_n 1, 0, 0, 0)],
   [some (.aload_n 1, 0, 0, 0), some (.getfield 33, 4, 7, 0), none, none, some (.iload_n 2, 0, 0, 0), some (.iaload, 0, 0, 0), some (.invokevirtual 36, 59, 0, 1), none, none, some (.iastore, 0, 0, 0), some (.aload_n 0, 0, 0, 0), some (.getfield 15, 5, 1, 0), none, none, some (.iload_n 2, 0, 0, 0), some (.aload_n 1, 0, 0, 0)],
   [some (.aload_n 1, 0, 0, 0), some (.getfield 33, 4, 7, 0), none, none, some (.iload_n 2, 0, 0, 0), some (.iaload, 0, 0, 0), some (.invokevirtual 40, 60, 0, 1), none, none, some (.iastore, 0, 0, 0), some (.aload_n 0, 0, 0, 0), some (.getfield 18, 5, 2, 0), none, none, some (.iload_n 2, 0, 0, 0), some (.iconst 0, 0, 0, 0)],
   [some (.iastore, 0, 0, 0), some (.aload_n 0, 0, 0, 0), some (.getfield 21, 5, 3, 0), none, none, some (.iload_n 2, 0, 0, 0), some (.iconst 0, 0, 0, 0), some (.iastore, 0, 0, 0), some (.iinc 2 1, 0, 0, 0), none, none, some (.goto (-57), 2, 0, 0), none, none, some (.iconst 0, 0, 0, 0), some (.istore_n 2, 0, 0, 0)],
   [some (.iload_n 2, 0, 0, 0), some (.aload_n 1, 0, 0, 0), some (.getfield 27, 4, 3, 0), none, none, some (.if_icmp .ge 52, 121, 0, 0), none, none, some (.iload_n 2, 0, 0, 0), some (.iconst 1, 0, 0, 0), some (.iadd, 0, 0, 0), some (.istore_n 3, 0, 0, 0), some (.iload_n 3, 0, 0, 0), some (.aload_n 1, 0, 0, 0), some (.getfield 27, 4, 3, 0)],
   [none, some (.if_icmp .ge 34, 115, 0, 0), none, none, some (.aload_n 1, 0, 0, 0), some (.getfield 43, 4, 8, 0), none, none, some (.iload_n 2, 0, 0, 0), some (.iaload, 0, 0, 0), some (.ifCond .eq 25, 115, 0, 0), none, none, some (.aload_n 1, 0, 0, 0), some (.getfield 43, 4, 8, 0)],
   [none, some (.iload_n 3, 0, 0, 0), some (.iaload, 0, 0, 0), some (.ifCond .eq 10, 109, 0, 0), none, none, some (.aload_n 0, 0, 0, 0), some (.aload_n 1, 0, 0, 0), some (.iload_n 2, 0, 0, 0), some (.iload_n 3, 0, 0, 0), some (.invokevirtual 46, 61, 0, 3), none, none, some (.iinc 3 1, 0, 0, 0)],
   [some (.goto (-36), 76, 0, 0), none, none, some (.iinc 2 1, 0, 0, 0), none, none, some (.goto (-54), 64, 0, 0), none, none, some (.iconst 0, 0, 0, 0), some (.istore_n 2, 0, 0, 0), some (.iload_n 2, 0, 0, 0), some (.aload_n 1, 0, 0, 0), some (.getfield 27, 4, 3, 0)],
   [some (.if_icmp .ge 43, 171, 0, 0), none, none, some (.aload_n 0, 0, 0, 0), some (.getfield 24, 5, 4, 0), none, none, some (.iload_n 2, 0, 0, 0), some (.aload_n 1, 0, 0, 0), some (.getfield 50, 4, 9, 0), none, none, some (.iload_n 2, 0, 0, 0), some (.iaload, 0, 0, 0), some (.ifCond .eq 7, 149, 0, 0)],
   [none, some (.iconst 4, 0, 0, 0), some (.goto 18, 164, 0, 0), none, none, some (.aload_n 0, 0, 0, 0), some (.getfield 18, 5, 2, 0), none, none, some (.iload_n 2, 0, 0, 0), some (.iaload, 0, 0, 0), some (.aload_n 0, 0, 0, 0), some (.getfield 21, 5, 3, 0), none, none, some (.iload_n 2, 0, 0, 0)],
   [some (.iaload, 0, 0, 0), some (.invokestatic 53, 64, 2, 2), none, none, some (.iastore, 0, 0, 0), some (.iinc 2 1, 0, 0, 0), none, none, some (.goto (-45), 123, 0, 0), none, none, some (.return_, 0, 0, 0)]])
def m_59 : pm_M := (⟨"MoodTown$Town", "columnOf", "(I)I"⟩, prog_6_method_12_code, 2, (some .int), 4, 2, 0, 0, 0, 0,
  [[some (.aload_n 0, 0, 0, 0), some (.getfield 36, 4, 0, 0), none, none, some (.ifCond .le 12, 16, 0, 0), none, none, some (.iload_n 1, 0, 0, 0), some (.aload_n 0, 0, 0, 0), some (.getfield 36, 4, 0, 0), none, none, some (.irem, 0, 0, 0), some (.goto 4, 17, 0, 0)],
   [some (.iconst 0, 0, 0, 0), some (.ireturn, 0, 0, 0)]])
def m_60 : pm_M := (⟨"MoodTown$Town", "rowOf", "(I)I"⟩, prog_6_method_13_code, 2, (some .int), 4, 2, 0, 0, 0, 0,
  [[some (.aload_n 0, 0, 0, 0), some (.getfield 36, 4, 0, 0), none, none, some (.ifCond .le 12, 16, 0, 0), none, none, some (.iload_n 1, 0, 0, 0), some (.aload_n 0, 0, 0, 0), some (.getfield 36, 4, 0, 0), none, none, some (.idiv, 0, 0, 0), some (.goto 4, 17, 0, 0)],
   [some (.iconst 0, 0, 0, 0), some (.ireturn, 0, 0, 0)]])
def m_61 : pm_M := (⟨"MoodTown$Walk", "weighPair", "(LMoodTown$Town;II)V"⟩, prog_7_method_3_code, 10, none, 5, 4, 1, 21, 0, 0,
  [[some (.aload_n 0, 0, 0, 0), some (.getfield 9, 5, 0, 0), none, none, some (.iload_n 3, 0, 0, 0), some (.iaload, 0, 0, 0), some (.aload_n 0, 0, 0, 0), some (.getfield 9, 5, 0, 0), none, none, some (.iload_n 2, 0, 0, 0), some (.iaload, 0, 0, 0), some (.isub, 0, 0, 0), some (.istore 4, 0, 0, 0), none, some (.aload_n 0, 0, 0, 0)],
   [some (.getfield 15, 5, 1, 0), none, none, some (.iload_n 3, 0, 0, 0), some (.iaload, 0, 0, 0), some (.aload_n 0, 0, 0, 0), some (.getfield 15, 5, 1, 0), none, none, some (.iload_n 2, 0, 0, 0), some (.iaload, 0, 0, 0), some (.isub, 0, 0, 0), some (.istore 5, 0, 0, 0), none, some (.iload 4, 0, 0, 0)],
   [some (.invokestatic 57, 62, 2, 1), none, none, some (.iload 5, 0, 0, 0), none, some (.invokestatic 57, 62, 2, 1), none, none, some (.iadd, 0, 0, 0), some (.istore 6, 0, 0, 0), none, some (.iload 6, 0, 0, 0), none, some (.iconst 4, 0, 0, 0), some (.if_icmp .le 4, 50, 0, 0)],
   [none, some (.return_, 0, 0, 0), some (.aload_n 1, 0, 0, 0), some (.getfield 43, 4, 8, 0), none, none, some (.iload_n 2, 0, 0, 0), some (.iaload, 0, 0, 0), some (.aload_n 1, 0, 0, 0), some (.getfield 43, 4, 8, 0), none, none, some (.iload_n 3, 0, 0, 0), some (.iaload, 0, 0, 0), some (.if_icmp .ne 14, 76, 0, 0)],
   [none, some (.aload_n 1, 0, 0, 0), some (.getfield 62, 4, 11, 0), none, none, some (.iload 6, 0, 0, 0), none, some (.iaload, 0, 0, 0), some (.ineg, 0, 0, 0), some (.goto 10, 83, 0, 0), none, none, some (.aload_n 1, 0, 0, 0), some (.getfield 62, 4, 11, 0)],
   [some (.iload 6, 0, 0, 0), none, some (.iaload, 0, 0, 0), some (.istore 7, 0, 0, 0), none, some (.iload 7, 0, 0, 0), none, some (.iload 4, 0, 0, 0), none, some (.iconst 0, 0, 0, 0), some (.invokestatic 65, 63, 2, 2), none, none, some (.imul, 0, 0, 0), some (.istore 8, 0, 0, 0)],
   [some (.iload 7, 0, 0, 0), none, some (.iload 5, 0, 0, 0), none, some (.iconst 0, 0, 0, 0), some (.invokestatic 65, 63, 2, 2), none, none, some (.imul, 0, 0, 0), some (.istore 9, 0, 0, 0), none, some (.aload_n 0, 0, 0, 0), some (.getfield 18, 5, 2, 0), none, none, some (.iload_n 2, 0, 0, 0)],
   [some (.dup2, 0, 0, 0), some (.iaload, 0, 0, 0), some (.iload 8, 0, 0, 0), none, some (.iadd, 0, 0, 0), some (.iastore, 0, 0, 0), some (.aload_n 0, 0, 0, 0), some (.getfield 18, 5, 2, 0), none, none, some (.iload_n 3, 0, 0, 0), some (.dup2, 0, 0, 0), some (.iaload, 0, 0, 0), some (.iload 8, 0, 0, 0), none, some (.isub, 0, 0, 0)],
   [some (.iastore, 0, 0, 0), some (.aload_n 0, 0, 0, 0), some (.getfield 21, 5, 3, 0), none, none, some (.iload_n 2, 0, 0, 0), some (.dup2, 0, 0, 0), some (.iaload, 0, 0, 0), some (.iload 9, 0, 0, 0), none, some (.iadd, 0, 0, 0), some (.iastore, 0, 0, 0), some (.aload_n 0, 0, 0, 0), some (.getfield 21, 5, 3, 0)],
   [some (.iload_n 3, 0, 0, 0), some (.dup2, 0, 0, 0), some (.iaload, 0, 0, 0), some (.iload 9, 0, 0, 0), none, some (.isub, 0, 0, 0), some (.iastore, 0, 0, 0), some (.return_, 0, 0, 0)]])
def m_62 : pm_M := (⟨"java/lang/Math", "abs", "(I)I"⟩, prog_11_method_59_code, 1, (some .int), 10, 1, 0, 0, 0, 0,
  [[some (.iload_n 0, 0, 0, 0), some (.ifCond .ge 8, 9, 0, 0), none, none, some (.iload_n 0, 0, 0, 0), some (.ineg, 0, 0, 0), some (.goto 4, 10, 0, 0), none, none, some (.iload_n 0, 0, 0, 0), some (.ireturn, 0, 0, 0)]])
def m_63 : pm_M := (⟨"java/lang/Integer", "compare", "(II)I"⟩, prog_10_method_40_code, 2, (some .int), 11, 2, 0, 0, 0, 0,
  [[some (.iload_n 0, 0, 0, 0), some (.iload_n 1, 0, 0, 0), some (.if_icmp .ge 7, 9, 0, 0), none, none, some (.iconst (-1), 0, 0, 0), some (.goto 13, 19, 0, 0), none, none, some (.iload_n 0, 0, 0, 0), some (.iload_n 1, 0, 0, 0), some (.if_icmp .ne 7, 18, 0, 0), none, none, some (.iconst 0, 0, 0, 0), some (.goto 4, 19, 0, 0)],
   [none, none, some (.iconst 1, 0, 0, 0), some (.ireturn, 0, 0, 0)]])
def m_64 : pm_M := (⟨"MoodTown$Walk", "wayBy", "(II)I"⟩, prog_7_method_4_code, 2, (some .int), 5, 2, 1, 20, 0, 0,
  [[some (.iload_n 0, 0, 0, 0), some (.ifCond .eq 24, 25, 0, 0), none, none, some (.iload_n 0, 0, 0, 0), some (.invokestatic 57, 62, 2, 1), none, none, some (.iload_n 1, 0, 0, 0), some (.invokestatic 57, 62, 2, 1), none, none, some (.if_icmp .lt 13, 25, 0, 0), none, none, some (.iload_n 0, 0, 0, 0)],
   [some (.ifCond .le 7, 23, 0, 0), none, none, some (.iconst 1, 0, 0, 0), some (.goto 4, 24, 0, 0), none, none, some (.iconst 3, 0, 0, 0), some (.ireturn, 0, 0, 0), some (.iload_n 1, 0, 0, 0), some (.ifCond .eq 13, 39, 0, 0), none, none, some (.iload_n 1, 0, 0, 0), some (.ifCond .le 7, 37, 0, 0)],
   [none, some (.iconst 2, 0, 0, 0), some (.goto 4, 38, 0, 0), none, none, some (.iconst 0, 0, 0, 0), some (.ireturn, 0, 0, 0), some (.iconst 4, 0, 0, 0), some (.ireturn, 0, 0, 0)]])
def m_65 : pm_M := (⟨"MoodTown", "wish", "(I)I"⟩, prog_1_method_17_code, 2, (some .int), 6, 2, 3, 73, 0, 0,
  [[some (.aload_n 0, 0, 0, 0), some (.getfield 28, 6, 2, 0), none, none, some (.iload_n 1, 0, 0, 0), some (.invokevirtual 111, 40, 0, 1), none, none, some (.ifCond .ne 5, 13, 0, 0), none, none, some (.iconst (-1), 0, 0, 0), some (.ireturn, 0, 0, 0), some (.aload_n 0, 0, 0, 0), some (.getfield 35, 6, 3, 0)],
   [none, some (.aload_n 0, 0, 0, 0), some (.getfield 28, 6, 2, 0), none, none, some (.invokevirtual 146, 58, 0, 1), none, none, some (.aload_n 0, 0, 0, 0), some (.getfield 35, 6, 3, 0), none, none, some (.getfield 155, 5, 4, 0), none, none, some (.iload_n 1, 0, 0, 0)],
   [some (.iaload, 0, 0, 0), some (.ireturn, 0, 0, 0)]])
def m_66 : pm_M := (⟨"MoodTown", "stuck", "()I"⟩, prog_1_method_18_code, 1, (some .int), 6, 1, 5, 117, 0, 0,
  [[some (.aload_n 0, 0, 0, 0), some (.getfield 44, 6, 4, 0), none, none, some (.aload_n 0, 0, 0, 0), some (.getfield 28, 6, 2, 0), none, none, some (.invokevirtual 158, 67, 0, 1), none, none, some (.ireturn, 0, 0, 0)]])
def m_67 : pm_M := (⟨"MoodTown$Search", "stuckOnes", "(LMoodTown$Town;)I"⟩, prog_2_method_5_code, 4, (some .int), 0, 2, 4, 94, 0, 0,
  [[some (.aload_n 0, 0, 0, 0), some (.getfield 18, 0, 1, 0), none, none, some (.aload_n 1, 0, 0, 0), some (.invokevirtual 26, 41, 0, 1), none, none, some (.aload_n 0, 0, 0, 0), some (.getfield 9, 0, 0, 0), none, none, some (.aload_n 0, 0, 0, 0), some (.getfield 18, 0, 1, 0)],
   [some (.invokevirtual 36, 68, 0, 1), none, none, some (.iconst 0, 0, 0, 0), some (.istore_n 2, 0, 0, 0), some (.iconst 0, 0, 0, 0), some (.istore_n 3, 0, 0, 0), some (.iload_n 3, 0, 0, 0), some (.aload_n 1, 0, 0, 0), some (.getfield 39, 4, 3, 0), none, none, some (.if_icmp .ge 39, 67, 0, 0), none, none, some (.aload_n 0, 0, 0, 0)],
   [some (.getfield 9, 0, 0, 0), none, none, some (.getfield 43, 5, 4, 0), none, none, some (.iload_n 3, 0, 0, 0), some (.iaload, 0, 0, 0), some (.iconst 4, 0, 0, 0), some (.if_icmp .eq 20, 61, 0, 0), none, none, some (.aload_n 0, 0, 0, 0), some (.getfield 9, 0, 0, 0)],
   [some (.iload_n 3, 0, 0, 0), some (.invokevirtual 47, 73, 0, 1), none, none, some (.ifCond .ne 9, 61, 0, 0), none, none, some (.iload_n 2, 0, 0, 0), some (.iconst 1, 0, 0, 0), some (.iload_n 3, 0, 0, 0), some (.ishl, 0, 0, 0), some (.ior, 0, 0, 0), some (.istore_n 2, 0, 0, 0), some (.iinc 3 1, 0, 0, 0)],
   [some (.goto (-41), 23, 0, 0), none, none, some (.iload_n 2, 0, 0, 0), some (.ireturn, 0, 0, 0)]])
def m_68 : pm_M := (⟨"MoodTown$Walk", "takeStep", "(LMoodTown$Town;)V"⟩, prog_7_method_5_code, 2, none, 5, 2, 3, 73, 0, 0,
  [[some (.aload_n 0, 0, 0, 0), some (.aload_n 1, 0, 0, 0), some (.invokevirtual 70, 58, 0, 1), none, none, some (.aload_n 0, 0, 0, 0), some (.aload_n 1, 0, 0, 0), some (.invokevirtual 74, 69, 0, 1), none, none, some (.aload_n 0, 0, 0, 0), some (.aload_n 1, 0, 0, 0), some (.invokevirtual 77, 70, 0, 1), none, none, some (.aload_n 1, 0, 0, 0)],
   [some (.dup, 0, 0, 0), some (.getfield 80, 4, 5, 0), none, none, some (.iconst 1, 0, 0, 0), some (.iadd, 0, 0, 0), some (.putfield 80, 4, 5, 0), none, none, some (.return_, 0, 0, 0)]])
def m_69 : pm_M := (⟨"MoodTown$Walk", "moveAll", "(LMoodTown$Town;)V"⟩, prog_7_method_8_code, 8, none, 5, 2, 0, 0, 0, 0,
  [[some (.aload_n 1, 0, 0, 0), some (.getfield 96, 4, 2, 0), none, none, some (.istore_n 2, 0, 0, 0), some (.iconst 0, 0, 0, 0), some (.istore_n 3, 0, 0, 0), some (.iload_n 3, 0, 0, 0), some (.aload_n 1, 0, 0, 0), some (.getfield 27, 4, 3, 0), none, none, some (.if_icmp .ge 20, 32, 0, 0), none, none, some (.iload_n 2, 0, 0, 0)],
   [some (.iconst 1, 0, 0, 0), some (.aload_n 1, 0, 0, 0), some (.getfield 33, 4, 7, 0), none, none, some (.iload_n 3, 0, 0, 0), some (.iaload, 0, 0, 0), some (.ishl, 0, 0, 0), some (.ior, 0, 0, 0), some (.istore_n 2, 0, 0, 0), some (.iinc 3 1, 0, 0, 0), none, none, some (.goto (-22), 7, 0, 0)],
   [some (.aload_n 0, 0, 0, 0), some (.iconst 0, 0, 0, 0), some (.putfield 90, 5, 5, 0), none, none, some (.iconst 0, 0, 0, 0), some (.istore_n 3, 0, 0, 0), some (.iload_n 3, 0, 0, 0), some (.aload_n 1, 0, 0, 0), some (.getfield 27, 4, 3, 0), none, none, some (.if_icmp .ge 209, 253, 0, 0), none, none, some (.aload_n 0, 0, 0, 0)],
   [some (.getfield 9, 5, 0, 0), none, none, some (.iload_n 3, 0, 0, 0), some (.iaload, 0, 0, 0), some (.aload_n 0, 0, 0, 0), some (.getfield 24, 5, 4, 0), none, none, some (.iload_n 3, 0, 0, 0), some (.iaload, 0, 0, 0), some (.iconst 1, 0, 0, 0), some (.if_icmp .ne 7, 67, 0, 0), none, none, some (.iconst 1, 0, 0, 0)],
   [some (.goto 18, 82, 0, 0), none, none, some (.aload_n 0, 0, 0, 0), some (.getfield 24, 5, 4, 0), none, none, some (.iload_n 3, 0, 0, 0), some (.iaload, 0, 0, 0), some (.iconst 3, 0, 0, 0), some (.if_icmp .ne 7, 81, 0, 0), none, none, some (.iconst (-1), 0, 0, 0), some (.goto 4, 82, 0, 0)],
   [none, some (.iconst 0, 0, 0, 0), some (.iadd, 0, 0, 0), some (.istore 4, 0, 0, 0), none, some (.aload_n 0, 0, 0, 0), some (.getfield 15, 5, 1, 0), none, none, some (.iload_n 3, 0, 0, 0), some (.iaload, 0, 0, 0), some (.aload_n 0, 0, 0, 0), some (.getfield 24, 5, 4, 0), none, none, some (.iload_n 3, 0, 0, 0)],
   [some (.iaload, 0, 0, 0), some (.iconst 2, 0, 0, 0), some (.if_icmp .ne 7, 105, 0, 0), none, none, some (.iconst 1, 0, 0, 0), some (.goto 17, 119, 0, 0), none, none, some (.aload_n 0, 0, 0, 0), some (.getfield 24, 5, 4, 0), none, none, some (.iload_n 3, 0, 0, 0), some (.iaload, 0, 0, 0), some (.ifCond .ne 7, 118, 0, 0)],
   [none, none, some (.iconst (-1), 0, 0, 0), some (.goto 4, 119, 0, 0), none, none, some (.iconst 0, 0, 0, 0), some (.iadd, 0, 0, 0), some (.istore 5, 0, 0, 0), none, some (.iload 5, 0, 0, 0), none, some (.aload_n 1, 0, 0, 0), some (.getfield 99, 4, 0, 0)],
   [some (.imul, 0, 0, 0), some (.iload 4, 0, 0, 0), none, some (.iadd, 0, 0, 0), some (.istore 6, 0, 0, 0), none, some (.iload 4, 0, 0, 0), none, some (.ifCond .lt 30, 166, 0, 0), none, none, some (.iload 4, 0, 0, 0), none, some (.aload_n 1, 0, 0, 0), some (.getfield 99, 4, 0, 0)],
   [none, some (.if_icmp .ge 21, 166, 0, 0), none, none, some (.iload 5, 0, 0, 0), none, some (.ifCond .lt 16, 166, 0, 0), none, none, some (.iload 5, 0, 0, 0), none, some (.aload_n 1, 0, 0, 0), some (.getfield 102, 4, 1, 0), none, none, some (.if_icmp .ge 7, 166, 0, 0)],
   [none, none, some (.iconst 1, 0, 0, 0), some (.goto 4, 167, 0, 0), none, none, some (.iconst 0, 0, 0, 0), some (.istore 7, 0, 0, 0), none, some (.aload_n 0, 0, 0, 0), some (.getfield 24, 5, 4, 0), none, none, some (.iload_n 3, 0, 0, 0), some (.iaload, 0, 0, 0), some (.iconst 4, 0, 0, 0)],
   [some (.if_icmp .eq 71, 247, 0, 0), none, none, some (.iload 7, 0, 0, 0), none, some (.ifCond .eq 66, 247, 0, 0), none, none, some (.iload_n 2, 0, 0, 0), some (.iload 6, 0, 0, 0), none, some (.ishr, 0, 0, 0), some (.iconst 1, 0, 0, 0), some (.iand, 0, 0, 0), some (.ifCond .ne 57, 247, 0, 0)],
   [none, some (.iload_n 2, 0, 0, 0), some (.iconst 1, 0, 0, 0), some (.aload_n 1, 0, 0, 0), some (.getfield 33, 4, 7, 0), none, none, some (.iload_n 3, 0, 0, 0), some (.iaload, 0, 0, 0), some (.ishl, 0, 0, 0), some (.iconst (-1), 0, 0, 0), some (.ixor, 0, 0, 0), some (.iand, 0, 0, 0), some (.iconst 1, 0, 0, 0), some (.iload 6, 0, 0, 0)],
   [some (.ishl, 0, 0, 0), some (.ior, 0, 0, 0), some (.istore_n 2, 0, 0, 0), some (.aload_n 1, 0, 0, 0), some (.getfield 33, 4, 7, 0), none, none, some (.iload_n 3, 0, 0, 0), some (.iload 6, 0, 0, 0), none, some (.iastore, 0, 0, 0), some (.aload_n 0, 0, 0, 0), some (.getfield 9, 5, 0, 0), none, none, some (.iload_n 3, 0, 0, 0)],
   [some (.iload 4, 0, 0, 0), none, some (.iastore, 0, 0, 0), some (.aload_n 0, 0, 0, 0), some (.getfield 15, 5, 1, 0), none, none, some (.iload_n 3, 0, 0, 0), some (.iload 5, 0, 0, 0), none, some (.iastore, 0, 0, 0), some (.aload_n 0, 0, 0, 0), some (.dup, 0, 0, 0), some (.getfield 90, 5, 5, 0)],
   [some (.iconst 1, 0, 0, 0), some (.iload_n 3, 0, 0, 0), some (.ishl, 0, 0, 0), some (.ior, 0, 0, 0), some (.putfield 90, 5, 5, 0), none, none, some (.iinc 3 1, 0, 0, 0), none, none, some (.goto (-211), 39, 0, 0), none, none, some (.return_, 0, 0, 0)]])
def m_70 : pm_M := (⟨"MoodTown$Walk", "flipAll", "(LMoodTown$Town;)V"⟩, prog_7_method_9_code, 3, none, 5, 2, 2, 44, 0, 0,
  [[some (.aload_n 0, 0, 0, 0), some (.iconst 0, 0, 0, 0), some (.putfield 93, 5, 6, 0), none, none, some (.iconst 0, 0, 0, 0), some (.istore_n 2, 0, 0, 0), some (.iload_n 2, 0, 0, 0), some (.aload_n 1, 0, 0, 0), some (.getfield 27, 4, 3, 0), none, none, some (.if_icmp .ge 68, 80, 0, 0), none, none, some (.aload_n 1, 0, 0, 0)],
   [some (.getfield 105, 4, 4, 0), none, none, some (.ifCond .le 61, 80, 0, 0), none, none, some (.aload_n 1, 0, 0, 0), some (.getfield 43, 4, 8, 0), none, none, some (.iload_n 2, 0, 0, 0), some (.iaload, 0, 0, 0), some (.ifCond .eq 46, 74, 0, 0), none, none, some (.aload_n 0, 0, 0, 0)],
   [some (.iload_n 2, 0, 0, 0), some (.aload_n 1, 0, 0, 0), some (.getfield 27, 4, 3, 0), none, none, some (.invokevirtual 108, 71, 0, 2), none, none, some (.aload_n 1, 0, 0, 0), some (.getfield 105, 4, 4, 0), none, none, some (.if_icmp .lt 30, 74, 0, 0), none, none, some (.aload_n 1, 0, 0, 0)],
   [some (.getfield 43, 4, 8, 0), none, none, some (.iload_n 2, 0, 0, 0), some (.aload_n 1, 0, 0, 0), some (.getfield 43, 4, 8, 0), none, none, some (.iload_n 2, 0, 0, 0), some (.iaload, 0, 0, 0), some (.invokestatic 111, 72, 3, 1), none, none, some (.iastore, 0, 0, 0), some (.aload_n 0, 0, 0, 0), some (.dup, 0, 0, 0)],
   [some (.getfield 93, 5, 6, 0), none, none, some (.iconst 1, 0, 0, 0), some (.iload_n 2, 0, 0, 0), some (.ishl, 0, 0, 0), some (.ior, 0, 0, 0), some (.putfield 93, 5, 6, 0), none, none, some (.iinc 2 1, 0, 0, 0), none, none, some (.goto (-70), 7, 0, 0)],
   [some (.return_, 0, 0, 0)]])
def m_71 : pm_M := (⟨"MoodTown$Walk", "nextTo", "(II)I"⟩, prog_7_method_10_code, 5, (some .int), 5, 3, 1, 20, 0, 0,
  [[some (.iconst 0, 0, 0, 0), some (.istore_n 3, 0, 0, 0), some (.iconst 0, 0, 0, 0), some (.istore 4, 0, 0, 0), none, some (.iload 4, 0, 0, 0), none, some (.iload_n 2, 0, 0, 0), some (.if_icmp .ge 56, 64, 0, 0), none, none, some (.iload_n 3, 0, 0, 0), some (.aload_n 0, 0, 0, 0), some (.getfield 9, 5, 0, 0)],
   [some (.iload 4, 0, 0, 0), none, some (.iaload, 0, 0, 0), some (.aload_n 0, 0, 0, 0), some (.getfield 9, 5, 0, 0), none, none, some (.iload_n 1, 0, 0, 0), some (.iaload, 0, 0, 0), some (.isub, 0, 0, 0), some (.invokestatic 57, 62, 2, 1), none, none, some (.aload_n 0, 0, 0, 0), some (.getfield 15, 5, 1, 0)],
   [none, some (.iload 4, 0, 0, 0), none, some (.iaload, 0, 0, 0), some (.aload_n 0, 0, 0, 0), some (.getfield 15, 5, 1, 0), none, none, some (.iload_n 1, 0, 0, 0), some (.iaload, 0, 0, 0), some (.isub, 0, 0, 0), some (.invokestatic 57, 62, 2, 1), none, none, some (.iadd, 0, 0, 0), some (.iconst 1, 0, 0, 0)],
   [some (.if_icmp .ne 7, 55, 0, 0), none, none, some (.iconst 1, 0, 0, 0), some (.goto 4, 56, 0, 0), none, none, some (.iconst 0, 0, 0, 0), some (.iadd, 0, 0, 0), some (.istore_n 3, 0, 0, 0), some (.iinc 4 1, 0, 0, 0), none, none, some (.goto (-56), 5, 0, 0)],
   [some (.iload_n 3, 0, 0, 0), some (.ireturn, 0, 0, 0)]])
def m_72 : pm_M := (⟨"MoodTown", "flipOf", "(I)I"⟩, prog_1_method_50_code, 1, (some .int), 6, 1, 0, 0, 0, 0,
  [[some (.iload_n 0, 0, 0, 0), some (.ifCond .ne 7, 8, 0, 0), none, none, some (.iconst 0, 0, 0, 0), some (.goto 15, 20, 0, 0), none, none, some (.iload_n 0, 0, 0, 0), some (.iconst 3, 0, 0, 0), some (.if_icmp .ne 7, 17, 0, 0), none, none, some (.iconst 1, 0, 0, 0), some (.goto 6, 20, 0, 0)],
   [none, some (.iload_n 0, 0, 0, 0), some (.iconst 1, 0, 0, 0), some (.iadd, 0, 0, 0), some (.ireturn, 0, 0, 0)]])
def m_73 : pm_M := (⟨"MoodTown$Walk", "didGo", "(I)Z"⟩, prog_7_method_11_code, 2, (some .boolean), 5, 2, 0, 0, 0, 0,
  [[some (.aload_n 0, 0, 0, 0), some (.getfield 90, 5, 5, 0), none, none, some (.iload_n 1, 0, 0, 0), some (.ishr, 0, 0, 0), some (.iconst 1, 0, 0, 0), some (.iand, 0, 0, 0), some (.ifCond .eq 7, 15, 0, 0), none, none, some (.iconst 1, 0, 0, 0), some (.goto 4, 16, 0, 0), none, none, some (.iconst 0, 0, 0, 0)],
   [some (.ireturn, 0, 0, 0)]])
def m_74 : pm_M := (⟨"MoodTown", "strain", "()I"⟩, prog_1_method_19_code, 3, (some .int), 6, 1, 3, 73, 0, 0,
  [[some (.aload_n 0, 0, 0, 0), some (.getfield 35, 6, 3, 0), none, none, some (.aload_n 0, 0, 0, 0), some (.getfield 28, 6, 2, 0), none, none, some (.invokevirtual 146, 58, 0, 1), none, none, some (.iconst 0, 0, 0, 0), some (.istore_n 1, 0, 0, 0), some (.iconst 0, 0, 0, 0), some (.istore_n 2, 0, 0, 0), some (.iload_n 2, 0, 0, 0)],
   [some (.aload_n 0, 0, 0, 0), some (.getfield 28, 6, 2, 0), none, none, some (.getfield 98, 4, 3, 0), none, none, some (.if_icmp .ge 37, 60, 0, 0), none, none, some (.iload_n 1, 0, 0, 0), some (.aload_n 0, 0, 0, 0), some (.getfield 35, 6, 3, 0), none, none, some (.getfield 149, 5, 2, 0)],
   [none, none, some (.iload_n 2, 0, 0, 0), some (.iaload, 0, 0, 0), some (.invokestatic 162, 62, 2, 1), none, none, some (.aload_n 0, 0, 0, 0), some (.getfield 35, 6, 3, 0), none, none, some (.getfield 152, 5, 3, 0), none, none, some (.iload_n 2, 0, 0, 0), some (.iaload, 0, 0, 0)],
   [some (.invokestatic 162, 62, 2, 1), none, none, some (.iadd, 0, 0, 0), some (.iadd, 0, 0, 0), some (.istore_n 1, 0, 0, 0), some (.iinc 2 1, 0, 0, 0), none, none, some (.goto (-42), 15, 0, 0), none, none, some (.iload_n 1, 0, 0, 0), some (.ireturn, 0, 0, 0)]])
def m_75 : pm_M := (⟨"MoodTown", "go", "(I)I"⟩, prog_1_method_20_code, 2, (some .int), 6, 2, 5, 118, 0, 0,
  [[some (.iload_n 1, 0, 0, 0), some (.ifCond .lt 9, 10, 0, 0), none, none, some (.iload_n 1, 0, 0, 0), some (.bipush 60, 0, 0, 0), none, some (.if_icmp .le 5, 12, 0, 0), none, none, some (.iconst (-1), 0, 0, 0), some (.ireturn, 0, 0, 0), some (.aload_n 0, 0, 0, 0), some (.getfield 28, 6, 2, 0)],
   [some (.getfield 104, 4, 5, 0), none, none, some (.iload_n 1, 0, 0, 0), some (.iadd, 0, 0, 0), some (.sipush 1000, 0, 0, 0), none, none, some (.if_icmp .lt 6, 30, 0, 0), none, none, some (.bipush (-3), 0, 0, 0), none, some (.ireturn, 0, 0, 0), some (.aload_n 0, 0, 0, 0), some (.getfield 35, 6, 3, 0)],
   [none, none, some (.aload_n 0, 0, 0, 0), some (.getfield 28, 6, 2, 0), none, none, some (.iload_n 1, 0, 0, 0), some (.invokevirtual 167, 76, 0, 2), none, none, some (.aload_n 0, 0, 0, 0), some (.getfield 28, 6, 2, 0), none, none, some (.invokevirtual 171, 78, 0, 0)],
   [none, some (.ireturn, 0, 0, 0)]])
def m_76 : pm_M := (⟨"MoodTown$Walk", "takeSteps", "(LMoodTown$Town;I)V"⟩, prog_7_method_6_code, 5, none, 5, 3, 4, 94, 0, 0,
  [[some (.aload_n 1, 0, 0, 0), some (.getfield 80, 4, 5, 0), none, none, some (.iload_n 2, 0, 0, 0), some (.iadd, 0, 0, 0), some (.istore_n 3, 0, 0, 0), some (.iconst 0, 0, 0, 0), some (.istore 4, 0, 0, 0), none, some (.iload 4, 0, 0, 0), none, some (.iload_n 2, 0, 0, 0), some (.if_icmp .ge 24, 37, 0, 0)],
   [some (.aload_n 0, 0, 0, 0), some (.aload_n 1, 0, 0, 0), some (.invokevirtual 83, 68, 0, 1), none, none, some (.aload_n 0, 0, 0, 0), some (.invokevirtual 86, 77, 0, 0), none, none, some (.ifCond .eq 6, 31, 0, 0), none, none, some (.goto 9, 37, 0, 0), none, none, some (.iinc 4 1, 0, 0, 0)],
   [none, none, some (.goto (-24), 10, 0, 0), none, none, some (.aload_n 1, 0, 0, 0), some (.iload_n 3, 0, 0, 0), some (.putfield 80, 4, 5, 0), none, none, some (.return_, 0, 0, 0)]])
def m_77 : pm_M := (⟨"MoodTown$Walk", "changedNothing", "()Z"⟩, prog_7_method_7_code, 1, (some .boolean), 5, 1, 0, 0, 0, 0,
  [[some (.aload_n 0, 0, 0, 0), some (.getfield 90, 5, 5, 0), none, none, some (.ifCond .ne 14, 18, 0, 0), none, none, some (.aload_n 0, 0, 0, 0), some (.getfield 93, 5, 6, 0), none, none, some (.ifCond .ne 7, 18, 0, 0), none, none, some (.iconst 1, 0, 0, 0), some (.goto 4, 19, 0, 0)],
   [none, none, some (.iconst 0, 0, 0, 0), some (.ireturn, 0, 0, 0)]])
def m_78 : pm_M := (⟨"MoodTown$Town", "atGoals", "()I"⟩, prog_6_method_17_code, 3, (some .int), 4, 1, 0, 0, 0, 0,
  [[some (.iconst 0, 0, 0, 0), some (.istore_n 1, 0, 0, 0), some (.iconst 0, 0, 0, 0), some (.istore_n 2, 0, 0, 0), some (.iload_n 2, 0, 0, 0), some (.aload_n 0, 0, 0, 0), some (.getfield 46, 4, 3, 0), none, none, some (.if_icmp .ge 32, 41, 0, 0), none, none, some (.iload_n 1, 0, 0, 0), some (.aload_n 0, 0, 0, 0), some (.getfield 9, 4, 7, 0)],
   [none, some (.iload_n 2, 0, 0, 0), some (.iaload, 0, 0, 0), some (.aload_n 0, 0, 0, 0), some (.getfield 21, 4, 10, 0), none, none, some (.iload_n 2, 0, 0, 0), some (.iaload, 0, 0, 0), some (.if_icmp .ne 7, 32, 0, 0), none, none, some (.iconst 1, 0, 0, 0), some (.goto 4, 33, 0, 0)],
   [some (.iconst 0, 0, 0, 0), some (.iadd, 0, 0, 0), some (.istore_n 1, 0, 0, 0), some (.iinc 2 1, 0, 0, 0), none, none, some (.goto (-34), 4, 0, 0), none, none, some (.iload_n 1, 0, 0, 0), some (.ireturn, 0, 0, 0)]])
def m_79 : pm_M := (⟨"MoodTown", "ahead", "(III)I"⟩, prog_1_method_21_code, 5, (some .int), 6, 4, 6, 140, 0, 0,
  [[some (.aload_n 0, 0, 0, 0), some (.getfield 28, 6, 2, 0), none, none, some (.iload_n 1, 0, 0, 0), some (.invokevirtual 111, 40, 0, 1), none, none, some (.ifCond .eq 20, 28, 0, 0), none, none, some (.iload_n 2, 0, 0, 0), some (.ifCond .lt 16, 28, 0, 0), none, none, some (.iload_n 2, 0, 0, 0)],
   [some (.bipush 60, 0, 0, 0), none, some (.if_icmp .gt 10, 28, 0, 0), none, none, some (.iload_n 3, 0, 0, 0), some (.invokestatic 143, 57, 2, 1), none, none, some (.ifCond .ne 5, 30, 0, 0), none, none, some (.iconst (-1), 0, 0, 0), some (.ireturn, 0, 0, 0), some (.aload_n 0, 0, 0, 0), some (.getfield 44, 6, 4, 0)],
   [none, none, some (.aload_n 0, 0, 0, 0), some (.getfield 28, 6, 2, 0), none, none, some (.iload_n 2, 0, 0, 0), some (.invokevirtual 175, 80, 0, 2), none, none, some (.astore 4, 0, 0, 0), none, some (.iload_n 3, 0, 0, 0), some (.ifCond .ne 13, 58, 0, 0)],
   [some (.aload 4, 0, 0, 0), none, some (.getfield 114, 4, 7, 0), none, none, some (.iload_n 1, 0, 0, 0), some (.iaload, 0, 0, 0), some (.goto 10, 65, 0, 0), none, none, some (.aload 4, 0, 0, 0), none, some (.getfield 117, 4, 8, 0), none, none, some (.iload_n 1, 0, 0, 0)],
   [some (.iaload, 0, 0, 0), some (.ireturn, 0, 0, 0)]])
def m_80 : pm_M := (⟨"MoodTown$Search", "behind", "(LMoodTown$Town;I)LMoodTown$Town;"⟩, prog_2_method_4_code, 3, (some (.object "MoodTown$Town")), 0, 3, 5, 118, 0, 0,
  [[some (.aload_n 0, 0, 0, 0), some (.getfield 18, 0, 1, 0), none, none, some (.aload_n 1, 0, 0, 0), some (.invokevirtual 26, 41, 0, 1), none, none, some (.aload_n 0, 0, 0, 0), some (.getfield 9, 0, 0, 0), none, none, some (.aload_n 0, 0, 0, 0), some (.getfield 18, 0, 1, 0)],
   [some (.iload_n 2, 0, 0, 0), some (.invokevirtual 30, 76, 0, 2), none, none, some (.aload_n 0, 0, 0, 0), some (.getfield 18, 0, 1, 0), none, none, some (.areturn, 0, 0, 0)]])
def m_81 : pm_M := (⟨"MoodTown", "rest", "()I"⟩, prog_1_method_22_code, 1, (some .int), 6, 1, 6, 136, 0, 0,
  [[some (.aload_n 0, 0, 0, 0), some (.getfield 44, 6, 4, 0), none, none, some (.aload_n 0, 0, 0, 0), some (.getfield 28, 6, 2, 0), none, none, some (.invokevirtual 179, 82, 0, 1), none, none, some (.ireturn, 0, 0, 0)]])
def m_82 : pm_M := (⟨"MoodTown$Search", "stepsToRest", "(LMoodTown$Town;)I"⟩, prog_2_method_6_code, 3, (some .int), 0, 2, 5, 114, 0, 0,
  [[some (.aload_n 0, 0, 0, 0), some (.getfield 18, 0, 1, 0), none, none, some (.aload_n 1, 0, 0, 0), some (.invokevirtual 26, 41, 0, 1), none, none, some (.iconst 0, 0, 0, 0), some (.istore_n 2, 0, 0, 0), some (.iload_n 2, 0, 0, 0), some (.bipush 60, 0, 0, 0), none, some (.if_icmp .gt 18, 31, 0, 0)],
   [some (.aload_n 0, 0, 0, 0), some (.invokevirtual 51, 83, 0, 0), none, none, some (.ifCond .eq 5, 25, 0, 0), none, none, some (.iload_n 2, 0, 0, 0), some (.ireturn, 0, 0, 0), some (.iinc 2 1, 0, 0, 0), none, none, some (.goto (-18), 10, 0, 0), none, none, some (.bipush (-4), 0, 0, 0)],
   [none, some (.ireturn, 0, 0, 0)]])
def m_83 : pm_M := (⟨"MoodTown$Search", "isTrialAtRest", "()Z"⟩, prog_2_method_7_code, 1, (some .boolean), 0, 1, 4, 94, 0, 0,
  [[some (.aload_n 0, 0, 0, 0), some (.getfield 9, 0, 0, 0), none, none, some (.aload_n 0, 0, 0, 0), some (.getfield 18, 0, 1, 0), none, none, some (.invokevirtual 36, 68, 0, 1), none, none, some (.aload_n 0, 0, 0, 0), some (.getfield 9, 0, 0, 0), none, none, some (.invokevirtual 55, 77, 0, 0)],
   [none, none, some (.ireturn, 0, 0, 0)]])
def m_84 : pm_M := (⟨"MoodTown", "again", "(I)I"⟩, prog_1_method_23_code, 3, (some .int), 6, 2, 5, 119, 0, 0,
  [[some (.iload_n 1, 0, 0, 0), some (.invokestatic 143, 57, 2, 1), none, none, some (.ifCond .ne 5, 9, 0, 0), none, none, some (.iconst (-1), 0, 0, 0), some (.ireturn, 0, 0, 0), some (.aload_n 0, 0, 0, 0), some (.getfield 44, 6, 4, 0), none, none, some (.aload_n 0, 0, 0, 0), some (.getfield 28, 6, 2, 0)],
   [none, some (.invokevirtual 182, 85, 0, 1), none, none, some (.istore_n 2, 0, 0, 0), some (.iload_n 2, 0, 0, 0), some (.bipush (-4), 0, 0, 0), none, some (.if_icmp .ne 6, 30, 0, 0), none, none, some (.bipush (-4), 0, 0, 0), none, some (.ireturn, 0, 0, 0), some (.iload_n 1, 0, 0, 0), some (.ifCond .ne 10, 41, 0, 0)],
   [none, none, some (.iload_n 2, 0, 0, 0), some (.invokestatic 185, 87, 2, 1), none, none, some (.goto 7, 45, 0, 0), none, none, some (.iload_n 2, 0, 0, 0), some (.invokestatic 188, 88, 2, 1), none, none, some (.ireturn, 0, 0, 0)]])
def m_85 : pm_M := (⟨"MoodTown$Search", "firstReturn", "(LMoodTown$Town;)I"⟩, prog_2_method_8_code, 6, (some .int), 0, 2, 4, 94, 0, 0,
  [[some (.aload_n 0, 0, 0, 0), some (.getfield 18, 0, 1, 0), none, none, some (.aload_n 1, 0, 0, 0), some (.invokevirtual 26, 41, 0, 1), none, none, some (.iconst 0, 0, 0, 0), some (.istore_n 2, 0, 0, 0), some (.iload_n 2, 0, 0, 0), some (.bipush 60, 0, 0, 0), none, some (.if_icmp .gt 74, 87, 0, 0)],
   [some (.aload_n 0, 0, 0, 0), some (.getfield 18, 0, 1, 0), none, none, some (.invokevirtual 58, 86, 0, 0), none, none, some (.lstore_n 3, 0, 0, 0), some (.iconst 0, 0, 0, 0), some (.istore 5, 0, 0, 0), none, some (.iload 5, 0, 0, 0), none, some (.iload_n 2, 0, 0, 0), some (.if_icmp .ge 33, 63, 0, 0)],
   [none, some (.aload_n 0, 0, 0, 0), some (.getfield 22, 0, 2, 0), none, none, some (.iload 5, 0, 0, 0), none, some (.laload, 0, 0, 0), some (.lload_n 3, 0, 0, 0), some (.lcmp, 0, 0, 0), some (.ifCond .ne 15, 57, 0, 0), none, none, some (.iload 5, 0, 0, 0), none, some (.sipush 1024, 0, 0, 0)],
   [none, none, some (.imul, 0, 0, 0), some (.iload_n 2, 0, 0, 0), some (.iadd, 0, 0, 0), some (.iload 5, 0, 0, 0), none, some (.isub, 0, 0, 0), some (.ireturn, 0, 0, 0), some (.iinc 5 1, 0, 0, 0), none, none, some (.goto (-33), 27, 0, 0), none, none, some (.aload_n 0, 0, 0, 0)],
   [some (.getfield 22, 0, 2, 0), none, none, some (.iload_n 2, 0, 0, 0), some (.lload_n 3, 0, 0, 0), some (.lastore, 0, 0, 0), some (.aload_n 0, 0, 0, 0), some (.getfield 9, 0, 0, 0), none, none, some (.aload_n 0, 0, 0, 0), some (.getfield 18, 0, 1, 0), none, none, some (.invokevirtual 36, 68, 0, 1)],
   [none, some (.iinc 2 1, 0, 0, 0), none, none, some (.goto (-74), 10, 0, 0), none, none, some (.bipush (-4), 0, 0, 0), none, some (.ireturn, 0, 0, 0)]])
def m_86 : pm_M := (⟨"MoodTown$Town", "mark", "()J"⟩, prog_6_method_25_code, 4, (some .long), 4, 1, 0, 0, 0, 0,
  [[some (.lconst 0, 0, 0, 0), some (.lstore_n 1, 0, 0, 0), some (.iconst 0, 0, 0, 0), some (.istore_n 3, 0, 0, 0), some (.iload_n 3, 0, 0, 0), some (.aload_n 0, 0, 0, 0), some (.getfield 46, 4, 3, 0), none, none, some (.if_icmp .ge 33, 42, 0, 0), none, none, some (.lload_n 1, 0, 0, 0), some (.ldc2_w 116, 0, 0, 128)],
   [some (.lmul, 0, 0, 0), some (.aload_n 0, 0, 0, 0), some (.getfield 9, 4, 7, 0), none, none, some (.iload_n 3, 0, 0, 0), some (.iaload, 0, 0, 0), some (.iconst 4, 0, 0, 0), some (.imul, 0, 0, 0), some (.i2l, 0, 0, 0), some (.ladd, 0, 0, 0), some (.aload_n 0, 0, 0, 0), some (.getfield 15, 4, 8, 0), none, none, some (.iload_n 3, 0, 0, 0)],
   [some (.iaload, 0, 0, 0), some (.i2l, 0, 0, 0), some (.ladd, 0, 0, 0), some (.lstore_n 1, 0, 0, 0), some (.iinc 3 1, 0, 0, 0), none, none, some (.goto (-35), 4, 0, 0), none, none, some (.lload_n 1, 0, 0, 0), some (.lreturn, 0, 0, 0)]])
def m_87 : pm_M := (⟨"MoodTown$Search", "upperOf", "(I)I"⟩, prog_2_method_2_code, 1, (some .int), 0, 1, 0, 0, 0, 0,
  [[some (.iload_n 0, 0, 0, 0), some (.sipush 1024, 0, 0, 0), none, none, some (.idiv, 0, 0, 0), some (.ireturn, 0, 0, 0)]])
def m_88 : pm_M := (⟨"MoodTown$Search", "lowerOf", "(I)I"⟩, prog_2_method_3_code, 1, (some .int), 0, 1, 0, 0, 0, 0,
  [[some (.iload_n 0, 0, 0, 0), some (.sipush 1024, 0, 0, 0), none, none, some (.irem, 0, 0, 0), some (.ireturn, 0, 0, 0)]])
def m_89 : pm_M := (⟨"MoodTown", "setting", "(II)I"⟩, prog_1_method_24_code, 4, (some .int), 6, 3, 7, 165, 0, 0,
  [[some (.iload_n 1, 0, 0, 0), some (.invokestatic 191, 90, 2, 1), none, none, some (.ifCond .eq 11, 15, 0, 0), none, none, some (.aload_n 0, 0, 0, 0), some (.iload_n 2, 0, 0, 0), some (.invokevirtual 194, 91, 0, 1), none, none, some (.ifCond .ne 5, 17, 0, 0), none, none, some (.iconst (-1), 0, 0, 0)],
   [some (.ireturn, 0, 0, 0), some (.aload_n 0, 0, 0, 0), some (.getfield 44, 6, 4, 0), none, none, some (.aload_n 0, 0, 0, 0), some (.getfield 28, 6, 2, 0), none, none, some (.iload_n 1, 0, 0, 0), some (.invokevirtual 197, 92, 0, 2), none, none, some (.istore_n 3, 0, 0, 0), some (.iload_n 3, 0, 0, 0), some (.bipush (-4), 0, 0, 0)],
   [none, some (.if_icmp .ne 6, 39, 0, 0), none, none, some (.bipush (-4), 0, 0, 0), none, some (.ireturn, 0, 0, 0), some (.iload_n 2, 0, 0, 0), some (.ifCond .ne 14, 54, 0, 0), none, none, some (.aload_n 0, 0, 0, 0), some (.getfield 28, 6, 2, 0), none, none, some (.iload_n 3, 0, 0, 0)],
   [some (.invokevirtual 201, 94, 0, 1), none, none, some (.goto 15, 66, 0, 0), none, none, some (.aload_n 0, 0, 0, 0), some (.getfield 28, 6, 2, 0), none, none, some (.iload_n 3, 0, 0, 0), some (.iload_n 2, 0, 0, 0), some (.bipush 10, 0, 0, 0), none, some (.isub, 0, 0, 0), some (.invokevirtual 204, 95, 0, 2)],
   [none, none, some (.ireturn, 0, 0, 0)]])
def m_90 : pm_M := (⟨"MoodTown", "isSearched", "(I)Z"⟩, prog_1_method_43_code, 1, (some .boolean), 6, 1, 0, 0, 0, 0,
  [[some (.iload_n 0, 0, 0, 0), some (.ifCond .lt 13, 14, 0, 0), none, none, some (.iload_n 0, 0, 0, 0), some (.bipush 12, 0, 0, 0), none, some (.if_icmp .gt 7, 14, 0, 0), none, none, some (.iconst 1, 0, 0, 0), some (.goto 4, 15, 0, 0), none, none, some (.iconst 0, 0, 0, 0), some (.ireturn, 0, 0, 0)]])
def m_91 : pm_M := (⟨"MoodTown", "isTotalOrOne", "(I)Z"⟩, prog_1_method_46_code, 2, (some .boolean), 6, 2, 1, 21, 0, 0,
  [[some (.iload_n 1, 0, 0, 0), some (.ifCond .eq 23, 24, 0, 0), none, none, some (.iload_n 1, 0, 0, 0), some (.bipush 10, 0, 0, 0), none, some (.if_icmp .lt 21, 28, 0, 0), none, none, some (.aload_n 0, 0, 0, 0), some (.getfield 28, 6, 2, 0), none, none, some (.iload_n 1, 0, 0, 0), some (.bipush 10, 0, 0, 0)],
   [none, some (.isub, 0, 0, 0), some (.invokevirtual 111, 40, 0, 1), none, none, some (.ifCond .eq 7, 28, 0, 0), none, none, some (.iconst 1, 0, 0, 0), some (.goto 4, 29, 0, 0), none, none, some (.iconst 0, 0, 0, 0), some (.ireturn, 0, 0, 0)]])
def m_92 : pm_M := (⟨"MoodTown$Search", "fewestChanged", "(LMoodTown$Town;I)I"⟩, prog_2_method_9_code, 5, (some .int), 0, 3, 6, 141, 0, 0,
  [[some (.aload_n 0, 0, 0, 0), some (.getfield 18, 0, 1, 0), none, none, some (.aload_n 1, 0, 0, 0), some (.invokevirtual 26, 41, 0, 1), none, none, some (.iconst 0, 0, 0, 0), some (.istore_n 3, 0, 0, 0), some (.iload_n 3, 0, 0, 0), some (.aload_n 1, 0, 0, 0), some (.getfield 39, 4, 3, 0), none, none, some (.if_icmp .gt 54, 69, 0, 0)],
   [none, none, some (.iconst 0, 0, 0, 0), some (.istore 4, 0, 0, 0), none, some (.iload 4, 0, 0, 0), none, some (.aload_n 1, 0, 0, 0), some (.getfield 39, 4, 3, 0), none, none, some (.invokestatic 62, 93, 3, 1), none, none, some (.if_icmp .ge 33, 63, 0, 0)],
   [none, some (.aload_n 1, 0, 0, 0), some (.iload 4, 0, 0, 0), none, some (.invokevirtual 66, 94, 0, 1), none, none, some (.iload_n 3, 0, 0, 0), some (.if_icmp .ne 17, 57, 0, 0), none, none, some (.aload_n 0, 0, 0, 0), some (.aload_n 1, 0, 0, 0), some (.iload 4, 0, 0, 0), none, some (.iload_n 2, 0, 0, 0)],
   [some (.invokevirtual 69, 97, 0, 3), none, none, some (.ifCond .eq 6, 57, 0, 0), none, none, some (.iload 4, 0, 0, 0), none, some (.ireturn, 0, 0, 0), some (.iinc 4 1, 0, 0, 0), none, none, some (.goto (-39), 21, 0, 0), none, none, some (.iinc 3 1, 0, 0, 0)],
   [none, none, some (.goto (-56), 10, 0, 0), none, none, some (.bipush (-4), 0, 0, 0), none, some (.ireturn, 0, 0, 0)]])
def m_93 : pm_M := (⟨"MoodTown", "rowsOf", "(I)I"⟩, prog_1_method_49_code, 1, (some .int), 6, 1, 0, 0, 0, 0,
  [[some (.iconst 1, 0, 0, 0), some (.iconst 2, 0, 0, 0), some (.iload_n 0, 0, 0, 0), some (.imul, 0, 0, 0), some (.ishl, 0, 0, 0), some (.ireturn, 0, 0, 0)]])
def m_94 : pm_M := (⟨"MoodTown$Town", "unlikeMoods", "(I)I"⟩, prog_6_method_23_code, 4, (some .int), 4, 2, 2, 44, 0, 0,
  [[some (.iconst 0, 0, 0, 0), some (.istore_n 2, 0, 0, 0), some (.iconst 0, 0, 0, 0), some (.istore_n 3, 0, 0, 0), some (.iload_n 3, 0, 0, 0), some (.aload_n 0, 0, 0, 0), some (.getfield 46, 4, 3, 0), none, none, some (.if_icmp .ge 32, 41, 0, 0), none, none, some (.iload_n 2, 0, 0, 0), some (.aload_n 0, 0, 0, 0), some (.getfield 15, 4, 8, 0)],
   [none, some (.iload_n 3, 0, 0, 0), some (.iaload, 0, 0, 0), some (.aload_n 0, 0, 0, 0), some (.iload_n 1, 0, 0, 0), some (.iload_n 3, 0, 0, 0), some (.invokevirtual 110, 95, 0, 2), none, none, some (.if_icmp .eq 7, 32, 0, 0), none, none, some (.iconst 1, 0, 0, 0), some (.goto 4, 33, 0, 0)],
   [some (.iconst 0, 0, 0, 0), some (.iadd, 0, 0, 0), some (.istore_n 2, 0, 0, 0), some (.iinc 3 1, 0, 0, 0), none, none, some (.goto (-34), 4, 0, 0), none, none, some (.iload_n 2, 0, 0, 0), some (.ireturn, 0, 0, 0)]])
def m_95 : pm_M := (⟨"MoodTown$Town", "moodInRow", "(II)I"⟩, prog_6_method_21_code, 3, (some .int), 4, 3, 1, 22, 0, 0,
  [[some (.iload_n 1, 0, 0, 0), some (.iload_n 2, 0, 0, 0), some (.aload_n 0, 0, 0, 0), some (.getfield 46, 4, 3, 0), none, none, some (.invokestatic 106, 96, 3, 3), none, none, some (.ireturn, 0, 0, 0)]])
def m_96 : pm_M := (⟨"MoodTown", "digitOf", "(III)I"⟩, prog_1_method_48_code, 3, (some .int), 6, 3, 0, 0, 0, 0,
  [[some (.iload_n 0, 0, 0, 0), some (.iconst 2, 0, 0, 0), some (.iload_n 2, 0, 0, 0), some (.iconst 1, 0, 0, 0), some (.isub, 0, 0, 0), some (.iload_n 1, 0, 0, 0), some (.isub, 0, 0, 0), some (.imul, 0, 0, 0), some (.ishr, 0, 0, 0), some (.iconst 3, 0, 0, 0), some (.iand, 0, 0, 0), some (.ireturn, 0, 0, 0)]])
def m_97 : pm_M := (⟨"MoodTown$Search", "reachesGoals", "(LMoodTown$Town;II)Z"⟩, prog_2_method_10_code, 4, (some .boolean), 0, 4, 5, 118, 0, 0,
  [[some (.aload_n 0, 0, 0, 0), some (.getfield 18, 0, 1, 0), none, none, some (.aload_n 1, 0, 0, 0), some (.invokevirtual 73, 42, 0, 1), none, none, some (.aload_n 0, 0, 0, 0), some (.getfield 18, 0, 1, 0), none, none, some (.iload_n 2, 0, 0, 0), some (.invokevirtual 76, 98, 0, 1)],
   [some (.aload_n 0, 0, 0, 0), some (.getfield 9, 0, 0, 0), none, none, some (.aload_n 0, 0, 0, 0), some (.getfield 18, 0, 1, 0), none, none, some (.iload_n 3, 0, 0, 0), some (.invokevirtual 30, 76, 0, 2), none, none, some (.aload_n 0, 0, 0, 0), some (.getfield 18, 0, 1, 0)],
   [some (.invokevirtual 80, 99, 0, 0), none, none, some (.ireturn, 0, 0, 0)]])
def m_98 : pm_M := (⟨"MoodTown$Town", "setMoods", "(I)V"⟩, prog_6_method_22_code, 3, none, 4, 2, 2, 44, 0, 0,
  [[some (.iconst 0, 0, 0, 0), some (.istore_n 2, 0, 0, 0), some (.iload_n 2, 0, 0, 0), some (.aload_n 0, 0, 0, 0), some (.getfield 46, 4, 3, 0), none, none, some (.if_icmp .ge 21, 28, 0, 0), none, none, some (.aload_n 0, 0, 0, 0), some (.getfield 15, 4, 8, 0), none, none, some (.iload_n 2, 0, 0, 0), some (.aload_n 0, 0, 0, 0)],
   [some (.iload_n 1, 0, 0, 0), some (.iload_n 2, 0, 0, 0), some (.invokevirtual 110, 95, 0, 2), none, none, some (.iastore, 0, 0, 0), some (.iinc 2 1, 0, 0, 0), none, none, some (.goto (-23), 2, 0, 0), none, none, some (.return_, 0, 0, 0)]])
def m_99 : pm_M := (⟨"MoodTown$Town", "allAtGoals", "()Z"⟩, prog_6_method_19_code, 1, (some .boolean), 4, 1, 1, 22, 0, 0,
  [[some (.aload_n 0, 0, 0, 0), some (.invokevirtual 100, 78, 0, 0), none, none, some (.aload_n 0, 0, 0, 0), some (.invokevirtual 103, 100, 0, 0), none, none, some (.if_icmp .ne 7, 15, 0, 0), none, none, some (.iconst 1, 0, 0, 0), some (.goto 4, 16, 0, 0), none, none, some (.iconst 0, 0, 0, 0)],
   [some (.ireturn, 0, 0, 0)]])
def m_100 : pm_M := (⟨"MoodTown$Town", "withGoals", "()I"⟩, prog_6_method_18_code, 3, (some .int), 4, 1, 0, 0, 0, 0,
  [[some (.iconst 0, 0, 0, 0), some (.istore_n 1, 0, 0, 0), some (.iconst 0, 0, 0, 0), some (.istore_n 2, 0, 0, 0), some (.iload_n 2, 0, 0, 0), some (.aload_n 0, 0, 0, 0), some (.getfield 46, 4, 3, 0), none, none, some (.if_icmp .ge 28, 37, 0, 0), none, none, some (.iload_n 1, 0, 0, 0), some (.aload_n 0, 0, 0, 0), some (.getfield 21, 4, 10, 0)],
   [none, some (.iload_n 2, 0, 0, 0), some (.iaload, 0, 0, 0), some (.bipush (-4), 0, 0, 0), none, some (.if_icmp .eq 7, 28, 0, 0), none, none, some (.iconst 1, 0, 0, 0), some (.goto 4, 29, 0, 0), none, none, some (.iconst 0, 0, 0, 0), some (.iadd, 0, 0, 0), some (.istore_n 1, 0, 0, 0), some (.iinc 2 1, 0, 0, 0)],
   [none, none, some (.goto (-30), 4, 0, 0), none, none, some (.iload_n 1, 0, 0, 0), some (.ireturn, 0, 0, 0)]])
def m_101 : pm_M := (⟨"MoodTown", "out", "()I"⟩, prog_1_method_25_code, 1, (some .int), 6, 1, 6, 137, 0, 0,
  [[some (.aload_n 0, 0, 0, 0), some (.getfield 44, 6, 4, 0), none, none, some (.aload_n 0, 0, 0, 0), some (.getfield 28, 6, 2, 0), none, none, some (.invokevirtual 208, 102, 0, 1), none, none, some (.ireturn, 0, 0, 0)]])
def m_102 : pm_M := (⟨"MoodTown$Search", "takenOut", "(LMoodTown$Town;)I"⟩, prog_2_method_11_code, 4, (some .int), 0, 2, 5, 114, 0, 0,
  [[some (.iconst 0, 0, 0, 0), some (.istore_n 2, 0, 0, 0), some (.iconst 0, 0, 0, 0), some (.istore_n 3, 0, 0, 0), some (.iload_n 3, 0, 0, 0), some (.aload_n 1, 0, 0, 0), some (.getfield 39, 4, 3, 0), none, none, some (.if_icmp .ge 42, 51, 0, 0), none, none, some (.aload_n 0, 0, 0, 0), some (.getfield 18, 0, 1, 0)],
   [some (.aload_n 1, 0, 0, 0), some (.invokevirtual 26, 41, 0, 1), none, none, some (.aload_n 0, 0, 0, 0), some (.getfield 18, 0, 1, 0), none, none, some (.iload_n 3, 0, 0, 0), some (.invokevirtual 83, 103, 0, 1), none, none, some (.iload_n 2, 0, 0, 0), some (.aload_n 0, 0, 0, 0), some (.invokevirtual 51, 83, 0, 0)],
   [none, some (.ifCond .eq 9, 42, 0, 0), none, none, some (.iconst 1, 0, 0, 0), some (.iload_n 3, 0, 0, 0), some (.ishl, 0, 0, 0), some (.goto 4, 43, 0, 0), none, none, some (.iconst 0, 0, 0, 0), some (.ior, 0, 0, 0), some (.istore_n 2, 0, 0, 0), some (.iinc 3 1, 0, 0, 0)],
   [some (.goto (-44), 4, 0, 0), none, none, some (.iload_n 2, 0, 0, 0), some (.ireturn, 0, 0, 0)]])
def m_103 : pm_M := (⟨"MoodTown$Town", "dropOne", "(I)V"⟩, prog_6_method_16_code, 3, none, 4, 2, 0, 0, 0, 0,
  [[some (.iload_n 1, 0, 0, 0), some (.istore_n 2, 0, 0, 0), some (.iload_n 2, 0, 0, 0), some (.iconst 1, 0, 0, 0), some (.iadd, 0, 0, 0), some (.aload_n 0, 0, 0, 0), some (.getfield 46, 4, 3, 0), none, none, some (.if_icmp .ge 65, 74, 0, 0), none, none, some (.aload_n 0, 0, 0, 0), some (.getfield 9, 4, 7, 0)],
   [some (.iload_n 2, 0, 0, 0), some (.aload_n 0, 0, 0, 0), some (.getfield 9, 4, 7, 0), none, none, some (.iload_n 2, 0, 0, 0), some (.iconst 1, 0, 0, 0), some (.iadd, 0, 0, 0), some (.iaload, 0, 0, 0), some (.iastore, 0, 0, 0), some (.aload_n 0, 0, 0, 0), some (.getfield 15, 4, 8, 0), none, none, some (.iload_n 2, 0, 0, 0), some (.aload_n 0, 0, 0, 0)],
   [some (.getfield 15, 4, 8, 0), none, none, some (.iload_n 2, 0, 0, 0), some (.iconst 1, 0, 0, 0), some (.iadd, 0, 0, 0), some (.iaload, 0, 0, 0), some (.iastore, 0, 0, 0), some (.aload_n 0, 0, 0, 0), some (.getfield 18, 4, 9, 0), none, none, some (.iload_n 2, 0, 0, 0), some (.aload_n 0, 0, 0, 0), some (.getfield 18, 4, 9, 0)],
   [none, some (.iload_n 2, 0, 0, 0), some (.iconst 1, 0, 0, 0), some (.iadd, 0, 0, 0), some (.iaload, 0, 0, 0), some (.iastore, 0, 0, 0), some (.aload_n 0, 0, 0, 0), some (.getfield 21, 4, 10, 0), none, none, some (.iload_n 2, 0, 0, 0), some (.aload_n 0, 0, 0, 0), some (.getfield 21, 4, 10, 0), none, none, some (.iload_n 2, 0, 0, 0)],
   [some (.iconst 1, 0, 0, 0), some (.iadd, 0, 0, 0), some (.iaload, 0, 0, 0), some (.iastore, 0, 0, 0), some (.iinc 2 1, 0, 0, 0), none, none, some (.goto (-69), 2, 0, 0), none, none, some (.aload_n 0, 0, 0, 0), some (.dup, 0, 0, 0), some (.getfield 46, 4, 3, 0), none, none, some (.iconst 1, 0, 0, 0)],
   [some (.isub, 0, 0, 0), some (.putfield 46, 4, 3, 0), none, none, some (.return_, 0, 0, 0)]])
def m_104 : pm_M := (⟨"MoodTown", "calm", "(I)I"⟩, prog_1_method_26_code, 2, (some .int), 6, 2, 6, 138, 0, 0,
  [[some (.aload_n 0, 0, 0, 0), some (.getfield 28, 6, 2, 0), none, none, some (.iload_n 1, 0, 0, 0), some (.invokevirtual 111, 40, 0, 1), none, none, some (.ifCond .eq 18, 26, 0, 0), none, none, some (.aload_n 0, 0, 0, 0), some (.getfield 44, 6, 4, 0), none, none, some (.aload_n 0, 0, 0, 0)],
   [some (.getfield 28, 6, 2, 0), none, none, some (.iload_n 1, 0, 0, 0), some (.invokevirtual 211, 105, 0, 2), none, none, some (.goto 4, 27, 0, 0), none, none, some (.iconst (-1), 0, 0, 0), some (.ireturn, 0, 0, 0)]])
def m_105 : pm_M := (⟨"MoodTown$Search", "calmCells", "(LMoodTown$Town;I)I"⟩, prog_2_method_12_code, 5, (some .int), 0, 3, 5, 114, 0, 0,
  [[some (.aload_n 0, 0, 0, 0), some (.getfield 18, 0, 1, 0), none, none, some (.aload_n 1, 0, 0, 0), some (.invokevirtual 26, 41, 0, 1), none, none, some (.iconst 0, 0, 0, 0), some (.istore_n 3, 0, 0, 0), some (.iconst 0, 0, 0, 0), some (.istore 4, 0, 0, 0), none, some (.iload 4, 0, 0, 0), none, some (.aload_n 1, 0, 0, 0)],
   [some (.invokevirtual 86, 39, 0, 0), none, none, some (.if_icmp .ge 56, 75, 0, 0), none, none, some (.aload_n 1, 0, 0, 0), some (.iload_n 2, 0, 0, 0), some (.iload 4, 0, 0, 0), none, some (.invokevirtual 90, 50, 0, 2), none, none, some (.ifCond .eq 40, 69, 0, 0)],
   [some (.aload_n 0, 0, 0, 0), some (.getfield 18, 0, 1, 0), none, none, some (.aload_n 1, 0, 0, 0), some (.invokevirtual 73, 42, 0, 1), none, none, some (.aload_n 0, 0, 0, 0), some (.getfield 18, 0, 1, 0), none, none, some (.getfield 94, 4, 7, 0), none, none, some (.iload_n 2, 0, 0, 0)],
   [some (.iload 4, 0, 0, 0), none, some (.iastore, 0, 0, 0), some (.iload_n 3, 0, 0, 0), some (.aload_n 0, 0, 0, 0), some (.invokevirtual 51, 83, 0, 0), none, none, some (.ifCond .eq 10, 66, 0, 0), none, none, some (.iconst 1, 0, 0, 0), some (.iload 4, 0, 0, 0), none, some (.ishl, 0, 0, 0), some (.goto 4, 67, 0, 0)],
   [none, none, some (.iconst 0, 0, 0, 0), some (.ior, 0, 0, 0), some (.istore_n 3, 0, 0, 0), some (.iinc 4 1, 0, 0, 0), none, none, some (.goto (-59), 13, 0, 0), none, none, some (.iload_n 3, 0, 0, 0), some (.ireturn, 0, 0, 0)]])
def m_106 : pm_M := (⟨"MoodTown", "nurse", "(IIII)I"⟩, prog_1_method_27_code, 8, (some .int), 6, 5, 6, 145, 0, 0,
  [[some (.aload_n 0, 0, 0, 0), some (.getfield 28, 6, 2, 0), none, none, some (.iload_n 1, 0, 0, 0), some (.invokevirtual 111, 40, 0, 1), none, none, some (.ifCond .eq 40, 48, 0, 0), none, none, some (.aload_n 0, 0, 0, 0), some (.getfield 28, 6, 2, 0), none, none, some (.iload_n 2, 0, 0, 0)],
   [some (.invokevirtual 111, 40, 0, 1), none, none, some (.ifCond .eq 29, 48, 0, 0), none, none, some (.aload_n 0, 0, 0, 0), some (.getfield 28, 6, 2, 0), none, none, some (.iload_n 3, 0, 0, 0), some (.invokevirtual 111, 40, 0, 1), none, none, some (.ifCond .eq 18, 48, 0, 0)],
   [none, some (.iload_n 1, 0, 0, 0), some (.iload_n 2, 0, 0, 0), some (.if_icmp .eq 13, 48, 0, 0), none, none, some (.iload_n 1, 0, 0, 0), some (.iload_n 3, 0, 0, 0), some (.if_icmp .eq 8, 48, 0, 0), none, none, some (.iload_n 2, 0, 0, 0), some (.iload_n 3, 0, 0, 0), some (.if_icmp .ne 5, 50, 0, 0)],
   [some (.iconst (-1), 0, 0, 0), some (.ireturn, 0, 0, 0), some (.iload 4, 0, 0, 0), none, some (.bipush 10, 0, 0, 0), none, some (.isub, 0, 0, 0), some (.istore 5, 0, 0, 0), none, some (.iload 4, 0, 0, 0), none, some (.ifCond .eq 18, 77, 0, 0), none, none, some (.iload 4, 0, 0, 0)],
   [some (.bipush 10, 0, 0, 0), none, some (.if_icmp .lt 9, 75, 0, 0), none, none, some (.iload 5, 0, 0, 0), none, some (.iconst 4, 0, 0, 0), some (.if_icmp .lt 5, 77, 0, 0), none, none, some (.iconst (-1), 0, 0, 0), some (.ireturn, 0, 0, 0), some (.aload_n 0, 0, 0, 0), some (.getfield 44, 6, 4, 0)],
   [none, some (.aload_n 0, 0, 0, 0), some (.getfield 28, 6, 2, 0), none, none, some (.iload_n 1, 0, 0, 0), some (.iload_n 2, 0, 0, 0), some (.iload_n 3, 0, 0, 0), some (.invokevirtual 214, 107, 0, 4), none, none, some (.istore 6, 0, 0, 0), none, some (.iload 6, 0, 0, 0), none, some (.bipush (-4), 0, 0, 0)],
   [none, some (.if_icmp .ne 6, 103, 0, 0), none, none, some (.bipush (-4), 0, 0, 0), none, some (.ireturn, 0, 0, 0), some (.iload 6, 0, 0, 0), none, some (.invokestatic 185, 87, 2, 1), none, none, some (.istore 7, 0, 0, 0), none, some (.iload 4, 0, 0, 0)],
   [some (.ifCond .ne 6, 118, 0, 0), none, none, some (.iload 7, 0, 0, 0), none, some (.ireturn, 0, 0, 0), some (.iload 5, 0, 0, 0), none, some (.iload 7, 0, 0, 0), none, some (.if_icmp .ge 18, 140, 0, 0), none, none, some (.iload 6, 0, 0, 0), none, some (.invokestatic 188, 88, 2, 1)],
   [none, none, some (.iload 5, 0, 0, 0), none, some (.iload 7, 0, 0, 0), none, some (.invokestatic 218, 96, 2, 3), none, none, some (.goto 5, 142, 0, 0), none, none, some (.bipush (-4), 0, 0, 0), none, some (.ireturn, 0, 0, 0)]])
def m_107 : pm_M := (⟨"MoodTown$Search", "soonestParted", "(LMoodTown$Town;III)I"⟩, prog_2_method_13_code, 7, (some .int), 0, 5, 5, 119, 0, 0,
  [[some (.aload_n 0, 0, 0, 0), some (.getfield 18, 0, 1, 0), none, none, some (.aload_n 1, 0, 0, 0), some (.invokevirtual 26, 41, 0, 1), none, none, some (.iconst 0, 0, 0, 0), some (.istore 5, 0, 0, 0), none, some (.iload 5, 0, 0, 0), none, some (.iconst 4, 0, 0, 0), some (.if_icmp .gt 62, 76, 0, 0)],
   [none, some (.iconst 0, 0, 0, 0), some (.istore 6, 0, 0, 0), none, some (.iload 6, 0, 0, 0), none, some (.iload 5, 0, 0, 0), none, some (.invokestatic 62, 93, 3, 1), none, none, some (.if_icmp .ge 43, 70, 0, 0), none, none, some (.aload_n 0, 0, 0, 0), some (.aload_n 1, 0, 0, 0)],
   [some (.iload_n 2, 0, 0, 0), some (.iload 6, 0, 0, 0), none, some (.iload 5, 0, 0, 0), none, some (.invokevirtual 97, 108, 0, 4), none, none, some (.aload_n 0, 0, 0, 0), some (.getfield 18, 0, 1, 0), none, none, some (.iload_n 3, 0, 0, 0), some (.iload 4, 0, 0, 0), none, some (.invokevirtual 101, 109, 0, 2)],
   [none, none, some (.iconst 1, 0, 0, 0), some (.if_icmp .le 13, 64, 0, 0), none, none, some (.iload 5, 0, 0, 0), none, some (.sipush 1024, 0, 0, 0), none, none, some (.imul, 0, 0, 0), some (.iload 6, 0, 0, 0), none, some (.iadd, 0, 0, 0), some (.ireturn, 0, 0, 0)],
   [some (.iinc 6 1, 0, 0, 0), none, none, some (.goto (-47), 20, 0, 0), none, none, some (.iinc 5 1, 0, 0, 0), none, none, some (.goto (-62), 11, 0, 0), none, none, some (.bipush (-4), 0, 0, 0), none, some (.ireturn, 0, 0, 0)]])
def m_108 : pm_M := (⟨"MoodTown$Search", "nurseTrial", "(LMoodTown$Town;III)V"⟩, prog_2_method_14_code, 6, none, 0, 5, 4, 94, 0, 0,
  [[some (.aload_n 0, 0, 0, 0), some (.getfield 18, 0, 1, 0), none, none, some (.aload_n 1, 0, 0, 0), some (.invokevirtual 73, 42, 0, 1), none, none, some (.iconst 0, 0, 0, 0), some (.istore 5, 0, 0, 0), none, some (.iload 5, 0, 0, 0), none, some (.iload 4, 0, 0, 0), none, some (.if_icmp .ge 37, 52, 0, 0)],
   [none, none, some (.aload_n 0, 0, 0, 0), some (.getfield 18, 0, 1, 0), none, none, some (.getfield 105, 4, 8, 0), none, none, some (.iload_n 2, 0, 0, 0), some (.iload_n 3, 0, 0, 0), some (.iload 5, 0, 0, 0), none, some (.iload 4, 0, 0, 0), none, some (.invokestatic 108, 96, 3, 3)],
   [none, none, some (.iastore, 0, 0, 0), some (.aload_n 0, 0, 0, 0), some (.getfield 9, 0, 0, 0), none, none, some (.aload_n 0, 0, 0, 0), some (.getfield 18, 0, 1, 0), none, none, some (.invokevirtual 36, 68, 0, 1), none, none, some (.iinc 5 1, 0, 0, 0)],
   [none, some (.goto (-38), 11, 0, 0), none, none, some (.return_, 0, 0, 0)]])
def m_109 : pm_M := (⟨"MoodTown$Town", "farBetween", "(II)I"⟩, prog_6_method_14_code, 3, (some .int), 4, 3, 1, 21, 0, 0,
  [[some (.aload_n 0, 0, 0, 0), some (.aload_n 0, 0, 0, 0), some (.getfield 9, 4, 7, 0), none, none, some (.iload_n 1, 0, 0, 0), some (.iaload, 0, 0, 0), some (.invokevirtual 89, 59, 0, 1), none, none, some (.aload_n 0, 0, 0, 0), some (.aload_n 0, 0, 0, 0), some (.getfield 9, 4, 7, 0), none, none, some (.iload_n 2, 0, 0, 0)],
   [some (.iaload, 0, 0, 0), some (.invokevirtual 89, 59, 0, 1), none, none, some (.isub, 0, 0, 0), some (.invokestatic 92, 62, 2, 1), none, none, some (.aload_n 0, 0, 0, 0), some (.aload_n 0, 0, 0, 0), some (.getfield 9, 4, 7, 0), none, none, some (.iload_n 1, 0, 0, 0), some (.iaload, 0, 0, 0), some (.invokevirtual 97, 60, 0, 1)],
   [none, none, some (.aload_n 0, 0, 0, 0), some (.aload_n 0, 0, 0, 0), some (.getfield 9, 4, 7, 0), none, none, some (.iload_n 2, 0, 0, 0), some (.iaload, 0, 0, 0), some (.invokevirtual 97, 60, 0, 1), none, none, some (.isub, 0, 0, 0), some (.invokestatic 92, 62, 2, 1)],
   [some (.iadd, 0, 0, 0), some (.ireturn, 0, 0, 0)]])
def m_110 : pm_M := (⟨"MoodTown", "hang", "(III)I"⟩, prog_1_method_28_code, 5, (some .int), 6, 4, 6, 144, 0, 0,
  [[some (.iload_n 1, 0, 0, 0), some (.iconst 1, 0, 0, 0), some (.if_icmp .lt 22, 24, 0, 0), none, none, some (.iload_n 1, 0, 0, 0), some (.iconst 3, 0, 0, 0), some (.if_icmp .gt 17, 24, 0, 0), none, none, some (.iload_n 2, 0, 0, 0), some (.invokestatic 191, 90, 2, 1), none, none, some (.ifCond .eq 10, 24, 0, 0)],
   [none, some (.iload_n 3, 0, 0, 0), some (.invokestatic 143, 57, 2, 1), none, none, some (.ifCond .ne 5, 26, 0, 0), none, none, some (.iconst (-1), 0, 0, 0), some (.ireturn, 0, 0, 0), some (.aload_n 0, 0, 0, 0), some (.getfield 44, 6, 4, 0), none, none, some (.aload_n 0, 0, 0, 0), some (.getfield 28, 6, 2, 0)],
   [none, none, some (.iload_n 1, 0, 0, 0), some (.iload_n 2, 0, 0, 0), some (.invokevirtual 222, 111, 0, 3), none, none, some (.istore 4, 0, 0, 0), none, some (.iload 4, 0, 0, 0), none, some (.bipush (-4), 0, 0, 0), none, some (.if_icmp .ne 6, 51, 0, 0)],
   [some (.bipush (-4), 0, 0, 0), none, some (.ireturn, 0, 0, 0), some (.iload_n 3, 0, 0, 0), some (.ifCond .ne 11, 63, 0, 0), none, none, some (.iload 4, 0, 0, 0), none, some (.invokestatic 185, 87, 2, 1), none, none, some (.goto 8, 68, 0, 0), none, none, some (.iload 4, 0, 0, 0)],
   [none, some (.invokestatic 188, 88, 2, 1), none, none, some (.ireturn, 0, 0, 0)]])
def m_111 : pm_M := (⟨"MoodTown$Search", "bestNail", "(LMoodTown$Town;II)I"⟩, prog_2_method_15_code, 7, (some .int), 0, 4, 5, 118, 0, 0,
  [[some (.bipush (-4), 0, 0, 0), none, some (.istore 4, 0, 0, 0), none, some (.iconst 0, 0, 0, 0), some (.istore 5, 0, 0, 0), none, some (.iload 5, 0, 0, 0), none, some (.aload_n 1, 0, 0, 0), some (.invokevirtual 86, 39, 0, 0), none, none, some (.if_icmp .ge 100, 113, 0, 0)],
   [some (.aload_n 1, 0, 0, 0), some (.iload 5, 0, 0, 0), none, some (.invokevirtual 112, 28, 0, 1), none, none, some (.ifCond .eq 85, 107, 0, 0), none, none, some (.aload_n 0, 0, 0, 0), some (.getfield 18, 0, 1, 0), none, none, some (.aload_n 1, 0, 0, 0), some (.invokevirtual 26, 41, 0, 1)],
   [none, some (.aload_n 0, 0, 0, 0), some (.getfield 18, 0, 1, 0), none, none, some (.getfield 115, 4, 10, 0), none, none, some (.aload_n 1, 0, 0, 0), some (.getfield 39, 4, 3, 0), none, none, some (.bipush (-4), 0, 0, 0), none, some (.iastore, 0, 0, 0), some (.aload_n 0, 0, 0, 0)],
   [some (.getfield 18, 0, 1, 0), none, none, some (.iload 5, 0, 0, 0), none, some (.iload_n 2, 0, 0, 0), some (.iconst 1, 0, 0, 0), some (.invokevirtual 118, 32, 0, 3), none, none, some (.aload_n 0, 0, 0, 0), some (.getfield 9, 0, 0, 0), none, none, some (.aload_n 0, 0, 0, 0), some (.getfield 18, 0, 1, 0)],
   [none, none, some (.iload_n 3, 0, 0, 0), some (.invokevirtual 30, 76, 0, 2), none, none, some (.aload_n 0, 0, 0, 0), some (.getfield 18, 0, 1, 0), none, none, some (.invokevirtual 122, 78, 0, 0), none, none, some (.istore 6, 0, 0, 0), none, some (.iload 4, 0, 0, 0)],
   [none, some (.bipush (-4), 0, 0, 0), none, some (.if_icmp .eq 13, 96, 0, 0), none, none, some (.iload 6, 0, 0, 0), none, some (.iload 4, 0, 0, 0), none, some (.invokestatic 125, 88, 2, 1), none, none, some (.if_icmp .le 14, 107, 0, 0)],
   [some (.iload 5, 0, 0, 0), none, some (.sipush 1024, 0, 0, 0), none, none, some (.imul, 0, 0, 0), some (.iload 6, 0, 0, 0), none, some (.iadd, 0, 0, 0), some (.istore 4, 0, 0, 0), none, some (.iinc 5 1, 0, 0, 0), none, none, some (.goto (-103), 7, 0, 0)],
   [none, some (.iload 4, 0, 0, 0), none, some (.ireturn, 0, 0, 0)]])
def m_112 : pm_M := (⟨"MoodTown", "odds", "(III)J"⟩, prog_1_method_29_code, 12, (some .long), 6, 4, 6, 146, 0, 0,
  [[some (.iload_n 1, 0, 0, 0), some (.ifCond .lt 23, 24, 0, 0), none, none, some (.iload_n 1, 0, 0, 0), some (.bipush 10, 0, 0, 0), none, some (.if_icmp .gt 17, 24, 0, 0), none, none, some (.iload_n 2, 0, 0, 0), some (.invokestatic 191, 90, 2, 1), none, none, some (.ifCond .eq 10, 24, 0, 0)],
   [none, some (.iload_n 3, 0, 0, 0), some (.invokestatic 143, 57, 2, 1), none, none, some (.ifCond .ne 7, 28, 0, 0), none, none, some (.ldc2_w 226, 0, 0, (-1)), none, none, some (.lreturn, 0, 0, 0), some (.aload_n 0, 0, 0, 0), some (.getfield 44, 6, 4, 0)],
   [some (.aload_n 0, 0, 0, 0), some (.getfield 28, 6, 2, 0), none, none, some (.iload_n 1, 0, 0, 0), some (.iload_n 2, 0, 0, 0), some (.invokevirtual 228, 113, 0, 3), none, none, some (.lstore 4, 0, 0, 0), none, some (.aload_n 0, 0, 0, 0), some (.getfield 28, 6, 2, 0), none, none, some (.invokevirtual 232, 116, 0, 0)],
   [none, none, some (.lstore 6, 0, 0, 0), none, some (.lload 4, 0, 0, 0), none, some (.lload 6, 0, 0, 0), none, some (.invokestatic 236, 117, 2, 2), none, none, some (.lstore 8, 0, 0, 0), none, some (.iload_n 3, 0, 0, 0), some (.ifCond .ne 8, 70, 0, 0)],
   [none, some (.lload 4, 0, 0, 0), none, some (.goto 5, 72, 0, 0), none, none, some (.lload 6, 0, 0, 0), none, some (.lstore 10, 0, 0, 0), none, some (.lload 8, 0, 0, 0), none, some (.lconst 0, 0, 0, 0), some (.lcmp, 0, 0, 0), some (.ifCond .le 11, 89, 0, 0)],
   [none, some (.lload 10, 0, 0, 0), none, some (.lload 8, 0, 0, 0), none, some (.ldiv, 0, 0, 0), some (.goto 5, 91, 0, 0), none, none, some (.lload 10, 0, 0, 0), none, some (.lreturn, 0, 0, 0)]])
def m_113 : pm_M := (⟨"MoodTown$Search", "weightAtGoals", "(LMoodTown$Town;II)J"⟩, prog_2_method_16_code, 9, (some .long), 0, 4, 5, 118, 0, 0,
  [[some (.aload_n 0, 0, 0, 0), some (.getfield 18, 0, 1, 0), none, none, some (.aload_n 1, 0, 0, 0), some (.invokevirtual 26, 41, 0, 1), none, none, some (.lconst 0, 0, 0, 0), some (.lstore 4, 0, 0, 0), none, some (.iconst 0, 0, 0, 0), some (.istore 6, 0, 0, 0), none, some (.iload 6, 0, 0, 0)],
   [some (.iconst 1, 0, 0, 0), some (.aload_n 1, 0, 0, 0), some (.getfield 39, 4, 3, 0), none, none, some (.ishl, 0, 0, 0), some (.if_icmp .ge 65, 87, 0, 0), none, none, some (.aload_n 1, 0, 0, 0), some (.iload_n 2, 0, 0, 0), some (.iload 6, 0, 0, 0), none, some (.invokestatic 128, 114, 2, 3)],
   [some (.lstore 7, 0, 0, 0), none, some (.lload 7, 0, 0, 0), none, some (.lconst 0, 0, 0, 0), some (.lcmp, 0, 0, 0), some (.ifCond .le 43, 81, 0, 0), none, none, some (.aload_n 0, 0, 0, 0), some (.aload_n 1, 0, 0, 0), some (.iload 6, 0, 0, 0), none, some (.invokevirtual 132, 115, 0, 2)],
   [some (.aload_n 0, 0, 0, 0), some (.getfield 9, 0, 0, 0), none, none, some (.aload_n 0, 0, 0, 0), some (.getfield 18, 0, 1, 0), none, none, some (.iload_n 3, 0, 0, 0), some (.invokevirtual 30, 76, 0, 2), none, none, some (.lload 4, 0, 0, 0), none, some (.aload_n 0, 0, 0, 0), some (.getfield 18, 0, 1, 0)],
   [none, none, some (.invokevirtual 80, 99, 0, 0), none, none, some (.ifCond .eq 8, 77, 0, 0), none, none, some (.lload 7, 0, 0, 0), none, some (.goto 4, 78, 0, 0), none, none, some (.lconst 0, 0, 0, 0), some (.ladd, 0, 0, 0), some (.lstore 4, 0, 0, 0)],
   [none, some (.iinc 6 1, 0, 0, 0), none, none, some (.goto (-70), 14, 0, 0), none, none, some (.lload 4, 0, 0, 0), none, some (.lreturn, 0, 0, 0)]])
def m_114 : pm_M := (⟨"MoodTown$Search", "weightOf", "(LMoodTown$Town;II)J"⟩, prog_2_method_17_code, 7, (some .long), 0, 3, 0, 0, 0, 0,
  [[some (.lconst 1, 0, 0, 0), some (.lstore_n 3, 0, 0, 0), some (.iconst 0, 0, 0, 0), some (.istore 5, 0, 0, 0), none, some (.iload 5, 0, 0, 0), none, some (.aload_n 0, 0, 0, 0), some (.getfield 39, 4, 3, 0), none, none, some (.if_icmp .ge 69, 80, 0, 0), none, none, some (.iload_n 2, 0, 0, 0), some (.iload 5, 0, 0, 0)],
   [none, some (.ishr, 0, 0, 0), some (.iconst 1, 0, 0, 0), some (.iand, 0, 0, 0), some (.ifCond .eq 7, 27, 0, 0), none, none, some (.iconst 1, 0, 0, 0), some (.goto 4, 28, 0, 0), none, none, some (.iconst 0, 0, 0, 0), some (.istore 6, 0, 0, 0), none, some (.aload_n 0, 0, 0, 0), some (.getfield 105, 4, 8, 0)],
   [none, none, some (.iload 5, 0, 0, 0), none, some (.iaload, 0, 0, 0), some (.ifCond .ne 19, 56, 0, 0), none, none, some (.lload_n 3, 0, 0, 0), some (.iload 6, 0, 0, 0), none, some (.ifCond .eq 7, 50, 0, 0), none, none, some (.lconst 0, 0, 0, 0), some (.goto 4, 51, 0, 0)],
   [none, none, some (.lconst 1, 0, 0, 0), some (.lmul, 0, 0, 0), some (.lstore_n 3, 0, 0, 0), some (.goto 21, 74, 0, 0), none, none, some (.lload_n 3, 0, 0, 0), some (.iload 6, 0, 0, 0), none, some (.ifCond .eq 8, 67, 0, 0), none, none, some (.iload_n 1, 0, 0, 0), some (.i2l, 0, 0, 0)],
   [some (.goto 8, 72, 0, 0), none, none, some (.bipush 10, 0, 0, 0), none, some (.iload_n 1, 0, 0, 0), some (.isub, 0, 0, 0), some (.i2l, 0, 0, 0), some (.lmul, 0, 0, 0), some (.lstore_n 3, 0, 0, 0), some (.iinc 5 1, 0, 0, 0), none, none, some (.goto (-72), 5, 0, 0)],
   [some (.lload_n 3, 0, 0, 0), some (.lreturn, 0, 0, 0)]])
def m_115 : pm_M := (⟨"MoodTown$Search", "flipTrial", "(LMoodTown$Town;I)V"⟩, prog_2_method_18_code, 4, none, 0, 3, 2, 47, 0, 0,
  [[some (.aload_n 0, 0, 0, 0), some (.getfield 18, 0, 1, 0), none, none, some (.aload_n 1, 0, 0, 0), some (.invokevirtual 73, 42, 0, 1), none, none, some (.iconst 0, 0, 0, 0), some (.istore_n 3, 0, 0, 0), some (.iload_n 3, 0, 0, 0), some (.aload_n 1, 0, 0, 0), some (.getfield 39, 4, 3, 0), none, none, some (.if_icmp .ge 35, 50, 0, 0)],
   [none, none, some (.iload_n 2, 0, 0, 0), some (.iload_n 3, 0, 0, 0), some (.ishr, 0, 0, 0), some (.iconst 1, 0, 0, 0), some (.iand, 0, 0, 0), some (.ifCond .eq 21, 44, 0, 0), none, none, some (.aload_n 0, 0, 0, 0), some (.getfield 18, 0, 1, 0), none, none, some (.getfield 105, 4, 8, 0)],
   [none, some (.iload_n 3, 0, 0, 0), some (.aload_n 1, 0, 0, 0), some (.getfield 105, 4, 8, 0), none, none, some (.iload_n 3, 0, 0, 0), some (.iaload, 0, 0, 0), some (.invokestatic 135, 72, 3, 1), none, none, some (.iastore, 0, 0, 0), some (.iinc 3 1, 0, 0, 0), none, none, some (.goto (-37), 10, 0, 0)],
   [none, none, some (.return_, 0, 0, 0)]])
def m_116 : pm_M := (⟨"MoodTown$Town", "weightOfAllFlips", "()J"⟩, prog_6_method_24_code, 4, (some .long), 4, 1, 0, 0, 0, 0,
  [[some (.lconst 1, 0, 0, 0), some (.lstore_n 1, 0, 0, 0), some (.iconst 0, 0, 0, 0), some (.istore_n 3, 0, 0, 0), some (.iload_n 3, 0, 0, 0), some (.aload_n 0, 0, 0, 0), some (.getfield 46, 4, 3, 0), none, none, some (.if_icmp .ge 28, 37, 0, 0), none, none, some (.lload_n 1, 0, 0, 0), some (.aload_n 0, 0, 0, 0), some (.getfield 15, 4, 8, 0)],
   [none, some (.iload_n 3, 0, 0, 0), some (.iaload, 0, 0, 0), some (.ifCond .ne 7, 26, 0, 0), none, none, some (.lconst 1, 0, 0, 0), some (.goto 6, 29, 0, 0), none, none, some (.ldc2_w 114, 0, 0, 10), none, none, some (.lmul, 0, 0, 0), some (.lstore_n 1, 0, 0, 0), some (.iinc 3 1, 0, 0, 0)],
   [none, none, some (.goto (-30), 4, 0, 0), none, none, some (.lload_n 1, 0, 0, 0), some (.lreturn, 0, 0, 0)]])
def m_117 : pm_M := (⟨"MoodTown", "commonDivisor", "(JJ)J"⟩, prog_1_method_51_code, 11, (some .long), 6, 2, 0, 0, 0, 0,
  [[some (.lload_n 0, 0, 0, 0), some (.lstore 4, 0, 0, 0), none, some (.lload_n 2, 0, 0, 0), some (.lstore 6, 0, 0, 0), none, some (.iconst 0, 0, 0, 0), some (.istore 8, 0, 0, 0), none, some (.iload 8, 0, 0, 0), none, some (.bipush 100, 0, 0, 0), none, some (.if_icmp .ge 31, 44, 0, 0)],
   [some (.lload 6, 0, 0, 0), none, some (.lconst 0, 0, 0, 0), some (.lcmp, 0, 0, 0), some (.ifCond .eq 24, 44, 0, 0), none, none, some (.lload 4, 0, 0, 0), none, some (.lload 6, 0, 0, 0), none, some (.lrem, 0, 0, 0), some (.lstore 9, 0, 0, 0), none, some (.lload 6, 0, 0, 0)],
   [some (.lstore 4, 0, 0, 0), none, some (.lload 9, 0, 0, 0), none, some (.lstore 6, 0, 0, 0), none, some (.iinc 8 1, 0, 0, 0), none, none, some (.goto (-32), 9, 0, 0), none, none, some (.lload 4, 0, 0, 0), none, some (.lreturn, 0, 0, 0)]])
def m_118 : pm_M := (⟨"MoodTown", "see", "(II)I"⟩, prog_1_method_30_code, 3, (some .int), 6, 3, 1, 21, 0, 0,
  [[some (.aload_n 0, 0, 0, 0), some (.getfield 28, 6, 2, 0), none, none, some (.iload_n 1, 0, 0, 0), some (.invokevirtual 111, 40, 0, 1), none, none, some (.ifCond .eq 12, 20, 0, 0), none, none, some (.iload_n 2, 0, 0, 0), some (.ifCond .lt 8, 20, 0, 0), none, none, some (.iload_n 2, 0, 0, 0)],
   [some (.iconst 4, 0, 0, 0), some (.if_icmp .le 5, 22, 0, 0), none, none, some (.iconst (-1), 0, 0, 0), some (.ireturn, 0, 0, 0), some (.aload_n 0, 0, 0, 0), some (.getfield 28, 6, 2, 0), none, none, some (.getfield 240, 4, 6, 0), none, none, some (.bipush 8, 0, 0, 0), none, some (.if_icmp .lt 6, 37, 0, 0)],
   [none, none, some (.bipush (-3), 0, 0, 0), none, some (.ireturn, 0, 0, 0), some (.aload_n 0, 0, 0, 0), some (.getfield 28, 6, 2, 0), none, none, some (.getfield 243, 4, 12, 0), none, none, some (.aload_n 0, 0, 0, 0), some (.getfield 28, 6, 2, 0)],
   [some (.getfield 240, 4, 6, 0), none, none, some (.iload_n 1, 0, 0, 0), some (.iastore, 0, 0, 0), some (.aload_n 0, 0, 0, 0), some (.getfield 28, 6, 2, 0), none, none, some (.getfield 246, 4, 13, 0), none, none, some (.aload_n 0, 0, 0, 0), some (.getfield 28, 6, 2, 0)],
   [some (.getfield 240, 4, 6, 0), none, none, some (.iload_n 2, 0, 0, 0), some (.iastore, 0, 0, 0), some (.aload_n 0, 0, 0, 0), some (.getfield 28, 6, 2, 0), none, none, some (.dup, 0, 0, 0), some (.getfield 240, 4, 6, 0), none, none, some (.iconst 1, 0, 0, 0), some (.iadd, 0, 0, 0), some (.putfield 240, 4, 6, 0)],
   [none, none, some (.aload_n 0, 0, 0, 0), some (.getfield 28, 6, 2, 0), none, none, some (.getfield 240, 4, 6, 0), none, none, some (.ireturn, 0, 0, 0)]])
def m_119 : pm_M := (⟨"MoodTown", "forget", "(I)I"⟩, prog_1_method_31_code, 3, (some .int), 6, 2, 0, 0, 0, 0,
  [[some (.aload_n 0, 0, 0, 0), some (.getfield 28, 6, 2, 0), none, none, some (.getfield 240, 4, 6, 0), none, none, some (.istore_n 2, 0, 0, 0), some (.iload_n 1, 0, 0, 0), some (.ifCond .lt 8, 17, 0, 0), none, none, some (.iload_n 1, 0, 0, 0), some (.iload_n 2, 0, 0, 0), some (.if_icmp .le 5, 19, 0, 0)],
   [none, some (.iconst (-1), 0, 0, 0), some (.ireturn, 0, 0, 0), some (.aload_n 0, 0, 0, 0), some (.getfield 28, 6, 2, 0), none, none, some (.iload_n 1, 0, 0, 0), some (.putfield 240, 4, 6, 0), none, none, some (.iload_n 2, 0, 0, 0), some (.ireturn, 0, 0, 0)]])
def m_120 : pm_M := (⟨"MoodTown", "moods", "(I)I"⟩, prog_1_method_32_code, 2, (some .int), 6, 2, 6, 141, 0, 0,
  [[some (.aload_n 0, 0, 0, 0), some (.iload_n 1, 0, 0, 0), some (.invokevirtual 194, 91, 0, 1), none, none, some (.ifCond .ne 5, 10, 0, 0), none, none, some (.iconst (-1), 0, 0, 0), some (.ireturn, 0, 0, 0), some (.iload_n 1, 0, 0, 0), some (.ifCond .ne 17, 28, 0, 0), none, none, some (.aload_n 0, 0, 0, 0), some (.getfield 44, 6, 4, 0)],
   [none, none, some (.aload_n 0, 0, 0, 0), some (.getfield 28, 6, 2, 0), none, none, some (.invokevirtual 249, 121, 0, 1), none, none, some (.goto 18, 43, 0, 0), none, none, some (.aload_n 0, 0, 0, 0), some (.getfield 44, 6, 4, 0)],
   [some (.aload_n 0, 0, 0, 0), some (.getfield 28, 6, 2, 0), none, none, some (.iload_n 1, 0, 0, 0), some (.bipush 10, 0, 0, 0), none, some (.isub, 0, 0, 0), some (.invokevirtual 252, 124, 0, 2), none, none, some (.ireturn, 0, 0, 0)]])
def m_121 : pm_M := (⟨"MoodTown$Search", "howManyFit", "(LMoodTown$Town;)I"⟩, prog_2_method_19_code, 4, (some .int), 0, 2, 5, 117, 0, 0,
  [[some (.aload_n 0, 0, 0, 0), some (.getfield 18, 0, 1, 0), none, none, some (.aload_n 1, 0, 0, 0), some (.invokevirtual 26, 41, 0, 1), none, none, some (.iconst 0, 0, 0, 0), some (.istore_n 2, 0, 0, 0), some (.iconst 0, 0, 0, 0), some (.istore_n 3, 0, 0, 0), some (.iload_n 3, 0, 0, 0), some (.aload_n 1, 0, 0, 0), some (.getfield 39, 4, 3, 0)],
   [none, some (.invokestatic 62, 93, 3, 1), none, none, some (.if_icmp .ge 26, 46, 0, 0), none, none, some (.iload_n 2, 0, 0, 0), some (.aload_n 0, 0, 0, 0), some (.aload_n 1, 0, 0, 0), some (.iload_n 3, 0, 0, 0), some (.invokevirtual 138, 122, 0, 2), none, none, some (.ifCond .eq 7, 37, 0, 0)],
   [none, some (.iconst 1, 0, 0, 0), some (.goto 4, 38, 0, 0), none, none, some (.iconst 0, 0, 0, 0), some (.iadd, 0, 0, 0), some (.istore_n 2, 0, 0, 0), some (.iinc 3 1, 0, 0, 0), none, none, some (.goto (-31), 12, 0, 0), none, none, some (.iload_n 2, 0, 0, 0), some (.ireturn, 0, 0, 0)]])
def m_122 : pm_M := (⟨"MoodTown$Search", "fits", "(LMoodTown$Town;I)Z"⟩, prog_2_method_21_code, 4, (some .boolean), 0, 3, 4, 94, 0, 0,
  [[some (.aload_n 0, 0, 0, 0), some (.getfield 18, 0, 1, 0), none, none, some (.aload_n 1, 0, 0, 0), some (.invokevirtual 73, 42, 0, 1), none, none, some (.aload_n 0, 0, 0, 0), some (.getfield 18, 0, 1, 0), none, none, some (.iload_n 2, 0, 0, 0), some (.invokevirtual 76, 98, 0, 1)],
   [some (.aload_n 0, 0, 0, 0), some (.getfield 9, 0, 0, 0), none, none, some (.aload_n 0, 0, 0, 0), some (.getfield 18, 0, 1, 0), none, none, some (.invokevirtual 36, 68, 0, 1), none, none, some (.iconst 0, 0, 0, 0), some (.istore_n 3, 0, 0, 0), some (.iload_n 3, 0, 0, 0), some (.aload_n 1, 0, 0, 0), some (.getfield 145, 4, 6, 0)],
   [none, none, some (.if_icmp .ge 33, 67, 0, 0), none, none, some (.aload_n 0, 0, 0, 0), some (.getfield 9, 0, 0, 0), none, none, some (.aload_n 1, 0, 0, 0), some (.getfield 148, 4, 12, 0), none, none, some (.iload_n 3, 0, 0, 0), some (.iaload, 0, 0, 0), some (.invokevirtual 151, 123, 0, 1)],
   [none, none, some (.aload_n 1, 0, 0, 0), some (.getfield 154, 4, 13, 0), none, none, some (.iload_n 3, 0, 0, 0), some (.iaload, 0, 0, 0), some (.if_icmp .eq 5, 61, 0, 0), none, none, some (.iconst 0, 0, 0, 0), some (.ireturn, 0, 0, 0), some (.iinc 3 1, 0, 0, 0)],
   [some (.goto (-35), 29, 0, 0), none, none, some (.iconst 1, 0, 0, 0), some (.ireturn, 0, 0, 0)]])
def m_123 : pm_M := (⟨"MoodTown$Walk", "deedOf", "(I)I"⟩, prog_7_method_12_code, 2, (some .int), 5, 2, 1, 21, 0, 0,
  [[some (.aload_n 0, 0, 0, 0), some (.iload_n 1, 0, 0, 0), some (.invokevirtual 114, 73, 0, 1), none, none, some (.ifCond .eq 12, 17, 0, 0), none, none, some (.aload_n 0, 0, 0, 0), some (.getfield 24, 5, 4, 0), none, none, some (.iload_n 1, 0, 0, 0), some (.iaload, 0, 0, 0), some (.goto 4, 18, 0, 0)],
   [none, some (.iconst 4, 0, 0, 0), some (.ireturn, 0, 0, 0)]])
def m_124 : pm_M := (⟨"MoodTown$Search", "fittingMoods", "(LMoodTown$Town;I)I"⟩, prog_2_method_20_code, 5, (some .int), 0, 3, 5, 117, 0, 0,
  [[some (.aload_n 0, 0, 0, 0), some (.getfield 18, 0, 1, 0), none, none, some (.aload_n 1, 0, 0, 0), some (.invokevirtual 26, 41, 0, 1), none, none, some (.iconst 0, 0, 0, 0), some (.istore_n 3, 0, 0, 0), some (.iconst 0, 0, 0, 0), some (.istore 4, 0, 0, 0), none, some (.iload 4, 0, 0, 0), none, some (.aload_n 1, 0, 0, 0)],
   [some (.getfield 39, 4, 3, 0), none, none, some (.invokestatic 62, 93, 3, 1), none, none, some (.if_icmp .ge 35, 57, 0, 0), none, none, some (.iload_n 3, 0, 0, 0), some (.aload_n 0, 0, 0, 0), some (.aload_n 1, 0, 0, 0), some (.iload 4, 0, 0, 0), none, some (.invokevirtual 138, 122, 0, 2)],
   [none, some (.ifCond .eq 15, 48, 0, 0), none, none, some (.iconst 1, 0, 0, 0), some (.aload_n 1, 0, 0, 0), some (.iload 4, 0, 0, 0), none, some (.iload_n 2, 0, 0, 0), some (.invokevirtual 142, 95, 0, 2), none, none, some (.ishl, 0, 0, 0), some (.goto 4, 49, 0, 0)],
   [some (.iconst 0, 0, 0, 0), some (.ior, 0, 0, 0), some (.istore_n 3, 0, 0, 0), some (.iinc 4 1, 0, 0, 0), none, none, some (.goto (-41), 13, 0, 0), none, none, some (.iload_n 3, 0, 0, 0), some (.ireturn, 0, 0, 0)]])
def m_125 : pm_M := (⟨"MoodTown", "crowd", "(II)I"⟩, prog_1_method_33_code, 3, (some .int), 6, 3, 5, 121, 0, 0,
  [[some (.iload_n 2, 0, 0, 0), some (.iconst 1, 0, 0, 0), some (.if_icmp .lt 9, 11, 0, 0), none, none, some (.iload_n 2, 0, 0, 0), some (.bipush 60, 0, 0, 0), none, some (.if_icmp .le 5, 13, 0, 0), none, none, some (.iconst (-1), 0, 0, 0), some (.ireturn, 0, 0, 0), some (.aload_n 0, 0, 0, 0), some (.getfield 44, 6, 4, 0)],
   [none, some (.aload_n 0, 0, 0, 0), some (.getfield 28, 6, 2, 0), none, none, some (.iload_n 1, 0, 0, 0), some (.iload_n 2, 0, 0, 0), some (.invokevirtual 255, 126, 0, 3), none, none, some (.ireturn, 0, 0, 0)]])
def m_126 : pm_M := (⟨"MoodTown$Search", "wentBySeed", "(LMoodTown$Town;II)I"⟩, prog_2_method_22_code, 8, (some .int), 0, 4, 4, 94, 0, 0,
  [[some (.aload_n 1, 0, 0, 0), some (.getfield 39, 4, 3, 0), none, none, some (.iconst 1, 0, 0, 0), some (.if_icmp .ge 6, 11, 0, 0), none, none, some (.bipush (-2), 0, 0, 0), none, some (.ireturn, 0, 0, 0), some (.aload_n 0, 0, 0, 0), some (.getfield 18, 0, 1, 0), none, none, some (.aload_n 1, 0, 0, 0)],
   [some (.invokevirtual 26, 41, 0, 1), none, none, some (.iload_n 2, 0, 0, 0), some (.istore 4, 0, 0, 0), none, some (.iconst 0, 0, 0, 0), some (.istore 5, 0, 0, 0), none, some (.iconst 0, 0, 0, 0), some (.istore 6, 0, 0, 0), none, some (.iload 6, 0, 0, 0), none, some (.iload_n 3, 0, 0, 0), some (.if_icmp .ge 86, 117, 0, 0)],
   [none, none, some (.iload 4, 0, 0, 0), none, some (.ldc 157, 0, 0, 1103515245), none, some (.imul, 0, 0, 0), some (.sipush 12345, 0, 0, 0), none, none, some (.iadd, 0, 0, 0), some (.istore 4, 0, 0, 0), none, some (.iload 4, 0, 0, 0), none, some (.bipush 16, 0, 0, 0)],
   [none, some (.iushr, 0, 0, 0), some (.sipush 32767, 0, 0, 0), none, none, some (.iand, 0, 0, 0), some (.aload_n 1, 0, 0, 0), some (.getfield 39, 4, 3, 0), none, none, some (.irem, 0, 0, 0), some (.istore 7, 0, 0, 0), none, some (.aload_n 0, 0, 0, 0), some (.getfield 18, 0, 1, 0)],
   [none, some (.getfield 105, 4, 8, 0), none, none, some (.iload 7, 0, 0, 0), none, some (.aload_n 0, 0, 0, 0), some (.getfield 18, 0, 1, 0), none, none, some (.getfield 105, 4, 8, 0), none, none, some (.iload 7, 0, 0, 0), none, some (.iaload, 0, 0, 0)],
   [some (.iconst 1, 0, 0, 0), some (.iadd, 0, 0, 0), some (.iconst 3, 0, 0, 0), some (.iand, 0, 0, 0), some (.iastore, 0, 0, 0), some (.aload_n 0, 0, 0, 0), some (.getfield 9, 0, 0, 0), none, none, some (.aload_n 0, 0, 0, 0), some (.getfield 18, 0, 1, 0), none, none, some (.invokevirtual 36, 68, 0, 1)],
   [some (.iload 5, 0, 0, 0), none, some (.aload_n 0, 0, 0, 0), some (.getfield 9, 0, 0, 0), none, none, some (.getfield 158, 5, 5, 0), none, none, some (.invokestatic 161, 127, 2, 1), none, none, some (.iadd, 0, 0, 0), some (.istore 5, 0, 0, 0), none, some (.iinc 6 1, 0, 0, 0)],
   [none, none, some (.goto (-86), 28, 0, 0), none, none, some (.iload 5, 0, 0, 0), none, some (.ireturn, 0, 0, 0)]])
def m_127 : pm_M := (⟨"java/lang/Integer", "bitCount", "(I)I"⟩, prog_10_method_49_code, 1, (some .int), 11, 1, 0, 0, 0, 0,
  [[some (.iload_n 0, 0, 0, 0), some (.iload_n 0, 0, 0, 0), some (.iconst 1, 0, 0, 0), some (.iushr, 0, 0, 0), some (.ldc_w 265, 0, 0, 1431655765), none, none, some (.iand, 0, 0, 0), some (.isub, 0, 0, 0), some (.istore_n 0, 0, 0, 0), some (.iload_n 0, 0, 0, 0), some (.ldc_w 266, 0, 0, 858993459), none, none, some (.iand, 0, 0, 0), some (.iload_n 0, 0, 0, 0)],
   [some (.iconst 2, 0, 0, 0), some (.iushr, 0, 0, 0), some (.ldc_w 266, 0, 0, 858993459), none, none, some (.iand, 0, 0, 0), some (.iadd, 0, 0, 0), some (.istore_n 0, 0, 0, 0), some (.iload_n 0, 0, 0, 0), some (.iload_n 0, 0, 0, 0), some (.iconst 4, 0, 0, 0), some (.iushr, 0, 0, 0), some (.iadd, 0, 0, 0), some (.ldc_w 267, 0, 0, 252645135)],
   [some (.iand, 0, 0, 0), some (.istore_n 0, 0, 0, 0), some (.iload_n 0, 0, 0, 0), some (.iload_n 0, 0, 0, 0), some (.bipush 8, 0, 0, 0), none, some (.iushr, 0, 0, 0), some (.iadd, 0, 0, 0), some (.istore_n 0, 0, 0, 0), some (.iload_n 0, 0, 0, 0), some (.iload_n 0, 0, 0, 0), some (.bipush 16, 0, 0, 0), none, some (.iushr, 0, 0, 0), some (.iadd, 0, 0, 0), some (.istore_n 0, 0, 0, 0)],
   [some (.iload_n 0, 0, 0, 0), some (.bipush 63, 0, 0, 0), none, some (.iand, 0, 0, 0), some (.ireturn, 0, 0, 0)]])
def m_128 : pm_M := (⟨"MoodTown", "keep", "(I)I"⟩, prog_1_method_34_code, 3, (some .int), 6, 2, 3, 68, 0, 0,
  [[some (.iload_n 1, 0, 0, 0), some (.ifCond .lt 8, 9, 0, 0), none, none, some (.iload_n 1, 0, 0, 0), some (.iconst 2, 0, 0, 0), some (.if_icmp .lt 5, 11, 0, 0), none, none, some (.iconst (-1), 0, 0, 0), some (.ireturn, 0, 0, 0), some (.aload_n 0, 0, 0, 0), some (.getfield 83, 6, 7, 0), none, none, some (.iload_n 1, 0, 0, 0)],
   [some (.ishr, 0, 0, 0), some (.iconst 1, 0, 0, 0), some (.iand, 0, 0, 0), some (.istore_n 2, 0, 0, 0), some (.aload_n 0, 0, 0, 0), some (.getfield 48, 6, 5, 0), none, none, some (.iload_n 1, 0, 0, 0), some (.aaload, 0, 0, 0), some (.aload_n 0, 0, 0, 0), some (.getfield 28, 6, 2, 0), none, none, some (.invokevirtual 79, 41, 0, 1)],
   [none, some (.aload_n 0, 0, 0, 0), some (.dup, 0, 0, 0), some (.getfield 83, 6, 7, 0), none, none, some (.iconst 1, 0, 0, 0), some (.iload_n 1, 0, 0, 0), some (.ishl, 0, 0, 0), some (.ior, 0, 0, 0), some (.putfield 83, 6, 7, 0), none, none, some (.iload_n 2, 0, 0, 0), some (.ireturn, 0, 0, 0)]])
def m_129 : pm_M := (⟨"MoodTown", "back", "(I)I"⟩, prog_1_method_35_code, 2, (some .int), 6, 2, 3, 68, 0, 0,
  [[some (.iload_n 1, 0, 0, 0), some (.ifCond .lt 8, 9, 0, 0), none, none, some (.iload_n 1, 0, 0, 0), some (.iconst 2, 0, 0, 0), some (.if_icmp .lt 5, 11, 0, 0), none, none, some (.iconst (-1), 0, 0, 0), some (.ireturn, 0, 0, 0), some (.aload_n 0, 0, 0, 0), some (.getfield 83, 6, 7, 0), none, none, some (.iload_n 1, 0, 0, 0)],
   [some (.ishr, 0, 0, 0), some (.iconst 1, 0, 0, 0), some (.iand, 0, 0, 0), some (.ifCond .ne 6, 25, 0, 0), none, none, some (.bipush (-2), 0, 0, 0), none, some (.ireturn, 0, 0, 0), some (.aload_n 0, 0, 0, 0), some (.getfield 28, 6, 2, 0), none, none, some (.aload_n 0, 0, 0, 0), some (.getfield 48, 6, 5, 0)],
   [none, some (.iload_n 1, 0, 0, 0), some (.aaload, 0, 0, 0), some (.invokevirtual 79, 41, 0, 1), none, none, some (.aload_n 0, 0, 0, 0), some (.getfield 28, 6, 2, 0), none, none, some (.getfield 104, 4, 5, 0), none, none, some (.ireturn, 0, 0, 0)]])
def m_130 : pm_M := (⟨"MoodTown", "sheet", "(III)I"⟩, prog_1_method_36_code, 4, (some .int), 6, 4, 2, 45, 0, 0,
  [[some (.iload_n 1, 0, 0, 0), some (.invokestatic 258, 131, 2, 1), none, none, some (.ifCond .eq 16, 20, 0, 0), none, none, some (.iload_n 2, 0, 0, 0), some (.invokestatic 261, 132, 2, 1), none, none, some (.ifCond .eq 9, 20, 0, 0), none, none, some (.iload_n 3, 0, 0, 0), some (.bipush 40, 0, 0, 0)],
   [none, some (.if_icmp .le 5, 22, 0, 0), none, none, some (.iconst (-1), 0, 0, 0), some (.ireturn, 0, 0, 0), some (.iload_n 3, 0, 0, 0), some (.ifCond .ge 6, 29, 0, 0), none, none, some (.bipush (-14), 0, 0, 0), none, some (.ireturn, 0, 0, 0), some (.aload_n 0, 0, 0, 0), some (.getfield 54, 6, 6, 0)],
   [none, some (.iload_n 1, 0, 0, 0), some (.aaload, 0, 0, 0), some (.iload_n 2, 0, 0, 0), some (.iload_n 3, 0, 0, 0), some (.invokevirtual 264, 133, 0, 2), none, none, some (.iconst 1, 0, 0, 0), some (.ireturn, 0, 0, 0)]])
def m_131 : pm_M := (⟨"MoodTown", "isSheet", "(I)Z"⟩, prog_1_method_44_code, 1, (some .boolean), 6, 1, 0, 0, 0, 0,
  [[some (.iload_n 0, 0, 0, 0), some (.ifCond .lt 12, 13, 0, 0), none, none, some (.iload_n 0, 0, 0, 0), some (.iconst 4, 0, 0, 0), some (.if_icmp .ge 7, 13, 0, 0), none, none, some (.iconst 1, 0, 0, 0), some (.goto 4, 14, 0, 0), none, none, some (.iconst 0, 0, 0, 0), some (.ireturn, 0, 0, 0)]])
def m_132 : pm_M := (⟨"MoodTown", "isLane", "(I)Z"⟩, prog_1_method_45_code, 1, (some .boolean), 6, 1, 0, 0, 0, 0,
  [[some (.iload_n 0, 0, 0, 0), some (.ifCond .lt 12, 13, 0, 0), none, none, some (.iload_n 0, 0, 0, 0), some (.iconst 2, 0, 0, 0), some (.if_icmp .gt 7, 13, 0, 0), none, none, some (.iconst 1, 0, 0, 0), some (.goto 4, 14, 0, 0), none, none, some (.iconst 0, 0, 0, 0), some (.ireturn, 0, 0, 0)]])
def m_133 : pm_M := (⟨"MoodTown$Sheet", "renew", "(II)V"⟩, prog_3_method_2_code, 3, none, 1, 3, 1, 23, 0, 0,
  [[some (.aload_n 0, 0, 0, 0), some (.iload_n 1, 0, 0, 0), some (.putfield 19, 1, 2, 0), none, none, some (.aload_n 0, 0, 0, 0), some (.iload_n 2, 0, 0, 0), some (.putfield 15, 1, 1, 0), none, none, some (.aload_n 0, 0, 0, 0), some (.getfield 9, 1, 0, 0), none, none, some (.iconst 0, 0, 0, 0), some (.invokestatic 22, 6, 2, 2)],
   [none, none, some (.return_, 0, 0, 0)]])
def m_134 : pm_M := (⟨"MoodTown", "lay", "(III)I"⟩, prog_1_method_37_code, 5, (some .int), 6, 4, 2, 41, 0, 0,
  [[some (.iload_n 1, 0, 0, 0), some (.invokestatic 258, 131, 2, 1), none, none, some (.ifCond .ne 5, 9, 0, 0), none, none, some (.iconst (-1), 0, 0, 0), some (.ireturn, 0, 0, 0), some (.aload_n 0, 0, 0, 0), some (.getfield 54, 6, 6, 0), none, none, some (.iload_n 1, 0, 0, 0), some (.aaload, 0, 0, 0), some (.iload_n 2, 0, 0, 0)],
   [some (.invokevirtual 268, 135, 0, 1), none, none, some (.istore 4, 0, 0, 0), none, some (.iload 4, 0, 0, 0), none, some (.ifCond .eq 9, 32, 0, 0), none, none, some (.bipush (-10), 0, 0, 0), none, some (.iload 4, 0, 0, 0), none, some (.isub, 0, 0, 0), some (.ireturn, 0, 0, 0)],
   [some (.aload_n 0, 0, 0, 0), some (.getfield 54, 6, 6, 0), none, none, some (.iload_n 1, 0, 0, 0), some (.aaload, 0, 0, 0), some (.iload_n 2, 0, 0, 0), some (.iload_n 3, 0, 0, 0), some (.invokevirtual 271, 137, 0, 2), none, none, some (.iconst 1, 0, 0, 0), some (.ireturn, 0, 0, 0)]])
def m_135 : pm_M := (⟨"MoodTown$Sheet", "faultAt", "(I)I"⟩, prog_3_method_5_code, 2, (some .int), 1, 2, 1, 20, 0, 0,
  [[some (.aload_n 0, 0, 0, 0), some (.invokevirtual 28, 136, 0, 0), none, none, some (.ifCond .eq 5, 9, 0, 0), none, none, some (.iconst 1, 0, 0, 0), some (.ireturn, 0, 0, 0), some (.iload_n 1, 0, 0, 0), some (.ifCond .lt 11, 21, 0, 0), none, none, some (.iload_n 1, 0, 0, 0), some (.aload_n 0, 0, 0, 0), some (.getfield 15, 1, 1, 0)],
   [none, none, some (.if_icmp .lt 7, 25, 0, 0), none, none, some (.iconst 2, 0, 0, 0), some (.goto 4, 26, 0, 0), none, none, some (.iconst 0, 0, 0, 0), some (.ireturn, 0, 0, 0)]])
def m_136 : pm_M := (⟨"MoodTown$Sheet", "isNothing", "()Z"⟩, prog_3_method_3_code, 1, (some .boolean), 1, 1, 0, 0, 0, 0,
  [[some (.aload_n 0, 0, 0, 0), some (.getfield 15, 1, 1, 0), none, none, some (.iconst (-1), 0, 0, 0), some (.if_icmp .ne 7, 12, 0, 0), none, none, some (.iconst 1, 0, 0, 0), some (.goto 4, 13, 0, 0), none, none, some (.iconst 0, 0, 0, 0), some (.ireturn, 0, 0, 0)]])
def m_137 : pm_M := (⟨"MoodTown$Sheet", "write", "(II)V"⟩, prog_3_method_7_code, 3, none, 1, 3, 0, 0, 0, 0,
  [[some (.iload_n 1, 0, 0, 0), some (.ifCond .lt 43, 44, 0, 0), none, none, some (.iload_n 1, 0, 0, 0), some (.aload_n 0, 0, 0, 0), some (.getfield 15, 1, 1, 0), none, none, some (.if_icmp .ge 35, 44, 0, 0), none, none, some (.aload_n 0, 0, 0, 0), some (.getfield 9, 1, 0, 0)],
   [some (.iload_n 1, 0, 0, 0), some (.aload_n 0, 0, 0, 0), some (.getfield 19, 1, 2, 0), none, none, some (.ifCond .ne 8, 29, 0, 0), none, none, some (.iload_n 2, 0, 0, 0), some (.i2b, 0, 0, 0), some (.goto 17, 43, 0, 0), none, none, some (.aload_n 0, 0, 0, 0), some (.getfield 19, 1, 2, 0)],
   [none, some (.iconst 1, 0, 0, 0), some (.if_icmp .ne 8, 42, 0, 0), none, none, some (.iload_n 2, 0, 0, 0), some (.i2s, 0, 0, 0), some (.goto 4, 43, 0, 0), none, none, some (.iload_n 2, 0, 0, 0), some (.iastore, 0, 0, 0), some (.return_, 0, 0, 0)]])
def m_138 : pm_M := (⟨"MoodTown", "read", "(IIII)I"⟩, prog_1_method_38_code, 9, (some .int), 6, 5, 3, 63, 0, 0,
  [[some (.iload_n 1, 0, 0, 0), some (.invokestatic 258, 131, 2, 1), none, none, some (.ifCond .eq 22, 26, 0, 0), none, none, some (.iload_n 2, 0, 0, 0), some (.invokestatic 261, 132, 2, 1), none, none, some (.ifCond .eq 15, 26, 0, 0), none, none, some (.iload 4, 0, 0, 0)],
   [some (.ifCond .lt 10, 26, 0, 0), none, none, some (.iload 4, 0, 0, 0), none, some (.bipush 20, 0, 0, 0), none, some (.if_icmp .le 5, 28, 0, 0), none, none, some (.iconst (-1), 0, 0, 0), some (.ireturn, 0, 0, 0), some (.aload_n 0, 0, 0, 0), some (.getfield 54, 6, 6, 0)],
   [some (.iload_n 1, 0, 0, 0), some (.aaload, 0, 0, 0), some (.astore 5, 0, 0, 0), none, some (.aload 5, 0, 0, 0), none, some (.iload_n 2, 0, 0, 0), some (.invokevirtual 274, 139, 0, 1), none, none, some (.istore 6, 0, 0, 0), none, some (.iconst 0, 0, 0, 0), some (.istore 7, 0, 0, 0), none, some (.iload 6, 0, 0, 0)],
   [none, some (.ifCond .ne 55, 104, 0, 0), none, none, some (.iload 7, 0, 0, 0), none, some (.iload 4, 0, 0, 0), none, some (.if_icmp .ge 48, 104, 0, 0), none, none, some (.aload 5, 0, 0, 0), none, some (.iload_n 3, 0, 0, 0), some (.iconst 2, 0, 0, 0), some (.iload 7, 0, 0, 0)],
   [none, some (.imul, 0, 0, 0), some (.iadd, 0, 0, 0), some (.invokevirtual 277, 140, 0, 1), none, none, some (.istore 6, 0, 0, 0), none, some (.iload 6, 0, 0, 0), none, some (.ifCond .ne (-27), 47, 0, 0), none, none, some (.aload_n 0, 0, 0, 0), some (.aload 5, 0, 0, 0)],
   [some (.iload_n 3, 0, 0, 0), some (.iconst 2, 0, 0, 0), some (.iload 7, 0, 0, 0), none, some (.imul, 0, 0, 0), some (.iadd, 0, 0, 0), some (.invokevirtual 280, 141, 0, 2), none, none, some (.ifCond .ne 9, 98, 0, 0), none, none, some (.bipush (-20), 0, 0, 0), none, some (.iload 7, 0, 0, 0)],
   [some (.isub, 0, 0, 0), some (.ireturn, 0, 0, 0), some (.iinc 7 1, 0, 0, 0), none, none, some (.goto (-54), 47, 0, 0), none, none, some (.iconst 0, 0, 0, 0), some (.istore 8, 0, 0, 0), none, some (.iload 8, 0, 0, 0), none, some (.iload 7, 0, 0, 0), none, some (.if_icmp .ge 43, 154, 0, 0)],
   [none, none, some (.aload_n 0, 0, 0, 0), some (.getfield 28, 6, 2, 0), none, none, some (.getfield 117, 4, 8, 0), none, none, some (.aload 5, 0, 0, 0), none, some (.getfield 284, 1, 0, 0), none, none, some (.iload_n 3, 0, 0, 0), some (.iconst 2, 0, 0, 0)],
   [some (.iload 8, 0, 0, 0), none, some (.imul, 0, 0, 0), some (.iadd, 0, 0, 0), some (.iaload, 0, 0, 0), some (.aload 5, 0, 0, 0), none, some (.getfield 284, 1, 0, 0), none, none, some (.iload_n 3, 0, 0, 0), some (.iconst 2, 0, 0, 0), some (.iload 8, 0, 0, 0), none, some (.imul, 0, 0, 0), some (.iadd, 0, 0, 0)],
   [some (.iconst 1, 0, 0, 0), some (.iadd, 0, 0, 0), some (.iaload, 0, 0, 0), some (.iastore, 0, 0, 0), some (.iinc 8 1, 0, 0, 0), none, none, some (.goto (-44), 107, 0, 0), none, none, some (.aload_n 0, 0, 0, 0), some (.iload 6, 0, 0, 0), none, some (.putfield 287, 6, 8, 0)],
   [some (.iload 7, 0, 0, 0), none, some (.ireturn, 0, 0, 0)]])
def m_139 : pm_M := (⟨"MoodTown$Sheet", "faultAs", "(I)I"⟩, prog_3_method_4_code, 2, (some .int), 1, 2, 1, 20, 0, 0,
  [[some (.aload_n 0, 0, 0, 0), some (.invokevirtual 28, 136, 0, 0), none, none, some (.ifCond .ne 15, 19, 0, 0), none, none, some (.aload_n 0, 0, 0, 0), some (.getfield 19, 1, 2, 0), none, none, some (.iload_n 1, 0, 0, 0), some (.if_icmp .eq 7, 19, 0, 0), none, none, some (.iconst 3, 0, 0, 0)],
   [some (.goto 4, 20, 0, 0), none, none, some (.iconst 0, 0, 0, 0), some (.ireturn, 0, 0, 0)]])
def m_140 : pm_M := (⟨"MoodTown$Sheet", "faultOfPair", "(I)I"⟩, prog_3_method_6_code, 3, (some .int), 1, 2, 2, 41, 0, 0,
  [[some (.aload_n 0, 0, 0, 0), some (.iload_n 1, 0, 0, 0), some (.invokevirtual 32, 135, 0, 1), none, none, some (.istore_n 2, 0, 0, 0), some (.iload_n 2, 0, 0, 0), some (.ifCond .eq 7, 14, 0, 0), none, none, some (.iload_n 2, 0, 0, 0), some (.goto 10, 21, 0, 0), none, none, some (.aload_n 0, 0, 0, 0), some (.iload_n 1, 0, 0, 0)],
   [some (.iconst 1, 0, 0, 0), some (.iadd, 0, 0, 0), some (.invokevirtual 32, 135, 0, 1), none, none, some (.ireturn, 0, 0, 0)]])
def m_141 : pm_M := (⟨"MoodTown", "isTellableMood", "(LMoodTown$Sheet;I)Z"⟩, prog_1_method_47_code, 3, (some .boolean), 6, 3, 1, 21, 0, 0,
  [[some (.aload_n 0, 0, 0, 0), some (.getfield 28, 6, 2, 0), none, none, some (.aload_n 1, 0, 0, 0), some (.getfield 284, 1, 0, 0), none, none, some (.iload_n 2, 0, 0, 0), some (.iaload, 0, 0, 0), some (.invokevirtual 111, 40, 0, 1), none, none, some (.ifCond .eq 21, 34, 0, 0)],
   [some (.aload_n 1, 0, 0, 0), some (.getfield 284, 1, 0, 0), none, none, some (.iload_n 2, 0, 0, 0), some (.iconst 1, 0, 0, 0), some (.iadd, 0, 0, 0), some (.iaload, 0, 0, 0), some (.invokestatic 133, 48, 2, 1), none, none, some (.ifCond .eq 7, 34, 0, 0), none, none, some (.iconst 1, 0, 0, 0), some (.goto 4, 35, 0, 0)],
   [none, none, some (.iconst 0, 0, 0, 0), some (.ireturn, 0, 0, 0)]])
def m_142 : pm_M := (⟨"MoodTown", "torn", "()I"⟩, prog_1_method_39_code, 1, (some .int), 6, 1, 0, 0, 0, 0,
  [[some (.aload_n 0, 0, 0, 0), some (.getfield 287, 6, 8, 0), none, none, some (.ireturn, 0, 0, 0)]])
def m_143 : pm_M := (⟨"MoodTown", "count", "(I)I"⟩, prog_1_method_40_code, 2, (some .int), 6, 2, 1, 22, 0, 0,
  [[some (.iload_n 1, 0, 0, 0), some (.tableswitch 118 0 6 #[43, 51, 59, 67, 75, 83, 110], 0, 0, 0)],
   [],
   [none, none, none, none, none, none, none, none, none, none, none, none, some (.aload_n 0, 0, 0, 0), some (.getfield 28, 6, 2, 0)],
   [some (.invokevirtual 171, 78, 0, 0), none, none, some (.ireturn, 0, 0, 0), some (.aload_n 0, 0, 0, 0), some (.getfield 28, 6, 2, 0), none, none, some (.invokevirtual 290, 100, 0, 0), none, none, some (.ireturn, 0, 0, 0), some (.aload_n 0, 0, 0, 0), some (.getfield 28, 6, 2, 0)],
   [some (.getfield 240, 4, 6, 0), none, none, some (.ireturn, 0, 0, 0), some (.aload_n 0, 0, 0, 0), some (.getfield 83, 6, 7, 0), none, none, some (.invokestatic 293, 127, 2, 1), none, none, some (.ireturn, 0, 0, 0), some (.aload_n 0, 0, 0, 0), some (.getfield 12, 6, 0, 0)],
   [some (.getfield 63, 2, 1, 0), none, none, some (.ireturn, 0, 0, 0), some (.aload_n 0, 0, 0, 0), some (.getfield 54, 6, 6, 0), none, none, some (.iconst 0, 0, 0, 0), some (.aaload, 0, 0, 0), some (.invokevirtual 298, 136, 0, 0), none, none, some (.ifCond .eq 8, 101, 0, 0)],
   [some (.bipush (-4), 0, 0, 0), none, some (.goto 12, 110, 0, 0), none, none, some (.aload_n 0, 0, 0, 0), some (.getfield 54, 6, 6, 0), none, none, some (.iconst 0, 0, 0, 0), some (.aaload, 0, 0, 0), some (.getfield 302, 1, 1, 0), none, none, some (.ireturn, 0, 0, 0), some (.aload_n 0, 0, 0, 0)],
   [some (.getfield 28, 6, 2, 0), none, none, some (.invokevirtual 305, 144, 0, 0), none, none, some (.ireturn, 0, 0, 0), some (.iconst (-1), 0, 0, 0), some (.ireturn, 0, 0, 0)]])
def m_144 : pm_M := (⟨"MoodTown$Town", "withoutMood", "()I"⟩, prog_6_method_20_code, 3, (some .int), 4, 1, 0, 0, 0, 0,
  [[some (.iconst 0, 0, 0, 0), some (.istore_n 1, 0, 0, 0), some (.iconst 0, 0, 0, 0), some (.istore_n 2, 0, 0, 0), some (.iload_n 2, 0, 0, 0), some (.aload_n 0, 0, 0, 0), some (.getfield 46, 4, 3, 0), none, none, some (.if_icmp .ge 26, 35, 0, 0), none, none, some (.iload_n 1, 0, 0, 0), some (.aload_n 0, 0, 0, 0), some (.getfield 15, 4, 8, 0)],
   [none, some (.iload_n 2, 0, 0, 0), some (.iaload, 0, 0, 0), some (.ifCond .ne 7, 26, 0, 0), none, none, some (.iconst 1, 0, 0, 0), some (.goto 4, 27, 0, 0), none, none, some (.iconst 0, 0, 0, 0), some (.iadd, 0, 0, 0), some (.istore_n 1, 0, 0, 0), some (.iinc 2 1, 0, 0, 0)],
   [some (.goto (-28), 4, 0, 0), none, none, some (.iload_n 1, 0, 0, 0), some (.ireturn, 0, 0, 0)]])
def m_145 : pm_M := (⟨"MoodTownModel", "<init>", "()V"⟩, prog_9_method_1_code, 2, none, 7, 1, 1, 21, 17, 675,
  [[some (.aload_n 0, 0, 0, 0), some (.invokespecial 1, 0, 9, 0), none, none, some (.aload_n 0, 0, 0, 0), some (.sipush 132, 0, 0, 0), none, none, some (.newarray .int, 0, 0, 0), none, some (.putfield 7, 7, 0, 0), none, none, some (.aload_n 0, 0, 0, 0), some (.iconst 2, 0, 0, 0), some (.newarray .boolean, 2, 0, 0)],
   [none, some (.putfield 13, 7, 1, 0), none, none, some (.aload_n 0, 0, 0, 0), some (.bipush 44, 0, 0, 0), none, some (.newarray .int, 0, 0, 0), none, some (.putfield 17, 7, 5, 0), none, none, some (.aload_n 0, 0, 0, 0), some (.sipush 160, 0, 0, 0)],
   [some (.newarray .int, 0, 0, 0), none, some (.putfield 20, 7, 12, 0), none, none, some (.aload_n 0, 0, 0, 0), some (.bipush 6, 0, 0, 0), none, some (.newarray .int, 0, 0, 0), none, some (.putfield 23, 7, 20, 0), none, none, some (.aload_n 0, 0, 0, 0), some (.bipush 6, 0, 0, 0)],
   [some (.newarray .int, 0, 0, 0), none, some (.putfield 26, 7, 21, 0), none, none, some (.aload_n 0, 0, 0, 0), some (.bipush 6, 0, 0, 0), none, some (.newarray .int, 0, 0, 0), none, some (.putfield 29, 7, 22, 0), none, none, some (.aload_n 0, 0, 0, 0), some (.bipush 6, 0, 0, 0)],
   [some (.newarray .int, 0, 0, 0), none, some (.putfield 32, 7, 23, 0), none, none, some (.aload_n 0, 0, 0, 0), some (.bipush 6, 0, 0, 0), none, some (.newarray .int, 0, 0, 0), none, some (.putfield 35, 7, 24, 0), none, none, some (.aload_n 0, 0, 0, 0), some (.bipush 6, 0, 0, 0)],
   [some (.newarray .int, 0, 0, 0), none, some (.putfield 38, 7, 25, 0), none, none, some (.aload_n 0, 0, 0, 0), some (.bipush 6, 0, 0, 0), none, some (.newarray .int, 0, 0, 0), none, some (.putfield 41, 7, 26, 0), none, none, some (.aload_n 0, 0, 0, 0), some (.bipush 61, 0, 0, 0)],
   [some (.newarray .int, 0, 0, 0), none, some (.putfield 44, 7, 28, 0), none, none, some (.aload_n 0, 0, 0, 0), some (.bipush 61, 0, 0, 0), none, some (.newarray .int, 0, 0, 0), none, some (.putfield 47, 7, 29, 0), none, none, some (.aload_n 0, 0, 0, 0), some (.iconst 4, 0, 0, 0), some (.newarray .int, 0, 0, 0)],
   [none, some (.putfield 50, 7, 30, 0), none, none, some (.aload_n 0, 0, 0, 0), some (.iconst 4, 0, 0, 0), some (.newarray .int, 0, 0, 0), none, some (.putfield 53, 7, 31, 0), none, none, some (.aload_n 0, 0, 0, 0), some (.sipush 160, 0, 0, 0), none, none, some (.newarray .int, 0, 0, 0)],
   [none, some (.putfield 56, 7, 32, 0), none, none, some (.aload_n 0, 0, 0, 0), some (.iconst 5, 0, 0, 0), some (.newarray .int, 0, 0, 0), none, some (.putfield 59, 7, 34, 0), none, none, some (.iconst 0, 0, 0, 0), some (.istore_n 1, 0, 0, 0), some (.iload_n 1, 0, 0, 0), some (.iconst 4, 0, 0, 0), some (.if_icmp .ge 17, 160, 0, 0)],
   [none, none, some (.aload_n 0, 0, 0, 0), some (.getfield 50, 7, 30, 0), none, none, some (.iload_n 1, 0, 0, 0), some (.bipush (-4), 0, 0, 0), none, some (.iastore, 0, 0, 0), some (.iinc 1 1, 0, 0, 0), none, none, some (.goto (-16), 141, 0, 0)],
   [some (.aload_n 0, 0, 0, 0), some (.invokevirtual 62, 146, 0, 0), none, none, some (.aload_n 0, 0, 0, 0), some (.invokevirtual 65, 147, 0, 0), none, none, some (.return_, 0, 0, 0)]])
def m_146 : pm_M := (⟨"MoodTownModel", "firstDraft", "()V"⟩, prog_9_method_5_code, 2, none, 7, 1, 0, 0, 0, 0,
  [[some (.iconst 0, 0, 0, 0), some (.istore_n 1, 0, 0, 0), some (.iload_n 1, 0, 0, 0), some (.bipush 44, 0, 0, 0), none, some (.if_icmp .ge 38, 43, 0, 0), none, none, some (.aload_n 0, 0, 0, 0), some (.getfield 17, 7, 5, 0), none, none, some (.iload_n 1, 0, 0, 0), some (.iload_n 1, 0, 0, 0), some (.bipush 15, 0, 0, 0)],
   [some (.if_icmp .lt 9, 25, 0, 0), none, none, some (.iload_n 1, 0, 0, 0), some (.bipush 20, 0, 0, 0), none, some (.if_icmp .lt 8, 30, 0, 0), none, none, some (.iload_n 1, 0, 0, 0), some (.iconst 5, 0, 0, 0), some (.if_icmp .ge 8, 35, 0, 0), none, none, some (.bipush (-4), 0, 0, 0)],
   [some (.goto 4, 36, 0, 0), none, none, some (.iconst 0, 0, 0, 0), some (.iastore, 0, 0, 0), some (.iinc 1 1, 0, 0, 0), none, none, some (.goto (-38), 2, 0, 0), none, none, some (.iconst 0, 0, 0, 0), some (.istore_n 1, 0, 0, 0), some (.iload_n 1, 0, 0, 0), some (.iconst 4, 0, 0, 0), some (.if_icmp .ge 21, 68, 0, 0)],
   [none, none, some (.aload_n 0, 0, 0, 0), some (.getfield 17, 7, 5, 0), none, none, some (.bipush 21, 0, 0, 0), none, some (.iload_n 1, 0, 0, 0), some (.iadd, 0, 0, 0), some (.iconst 4, 0, 0, 0), some (.iload_n 1, 0, 0, 0), some (.isub, 0, 0, 0), some (.iastore, 0, 0, 0), some (.iinc 1 1, 0, 0, 0)],
   [none, some (.goto (-20), 45, 0, 0), none, none, some (.aload_n 0, 0, 0, 0), some (.iconst 3, 0, 0, 0), some (.putfield 68, 7, 6, 0), none, none, some (.aload_n 0, 0, 0, 0), some (.iconst 3, 0, 0, 0), some (.putfield 72, 7, 7, 0), none, none, some (.aload_n 0, 0, 0, 0), some (.iconst 0, 0, 0, 0)],
   [some (.putfield 75, 7, 8, 0), none, none, some (.aload_n 0, 0, 0, 0), some (.iconst 0, 0, 0, 0), some (.putfield 78, 7, 9, 0), none, none, some (.aload_n 0, 0, 0, 0), some (.bipush (-4), 0, 0, 0), none, some (.putfield 81, 7, 10, 0), none, none, some (.aload_n 0, 0, 0, 0), some (.bipush (-4), 0, 0, 0)],
   [none, some (.putfield 84, 7, 11, 0), none, none, some (.return_, 0, 0, 0)]])
def m_147 : pm_M := (⟨"MoodTownModel", "keepDraft", "()V"⟩, prog_9_method_6_code, 2, none, 7, 1, 0, 0, 0, 0,
  [[some (.iconst 0, 0, 0, 0), some (.istore_n 1, 0, 0, 0), some (.iload_n 1, 0, 0, 0), some (.bipush 44, 0, 0, 0), none, some (.if_icmp .ge 21, 26, 0, 0), none, none, some (.aload_n 0, 0, 0, 0), some (.getfield 7, 7, 0, 0), none, none, some (.iload_n 1, 0, 0, 0), some (.aload_n 0, 0, 0, 0), some (.getfield 17, 7, 5, 0)],
   [none, some (.iload_n 1, 0, 0, 0), some (.iaload, 0, 0, 0), some (.iastore, 0, 0, 0), some (.iinc 1 1, 0, 0, 0), none, none, some (.goto (-21), 2, 0, 0), none, none, some (.aload_n 0, 0, 0, 0), some (.aload_n 0, 0, 0, 0), some (.getfield 68, 7, 6, 0), none, none, some (.putfield 87, 7, 2, 0)],
   [none, none, some (.aload_n 0, 0, 0, 0), some (.aload_n 0, 0, 0, 0), some (.getfield 72, 7, 7, 0), none, none, some (.putfield 90, 7, 3, 0), none, none, some (.aload_n 0, 0, 0, 0), some (.aload_n 0, 0, 0, 0), some (.getfield 75, 7, 8, 0), none, none, some (.putfield 93, 7, 4, 0)],
   [none, none, some (.aload_n 0, 0, 0, 0), some (.getfield 13, 7, 1, 0), none, none, some (.iconst 0, 0, 0, 0), some (.iconst 0, 0, 0, 0), some (.bastore, 0, 0, 0), some (.aload_n 0, 0, 0, 0), some (.getfield 13, 7, 1, 0), none, none, some (.iconst 1, 0, 0, 0), some (.iconst 0, 0, 0, 0), some (.bastore, 0, 0, 0)],
   [some (.return_, 0, 0, 0)]])
def m_148 : pm_M := (⟨"MoodTownModel", "feed", "(I)I"⟩, prog_9_method_7_code, 2, (some .int), 7, 2, 1, 25, 0, 0,
  [[some (.iload_n 1, 0, 0, 0), some (.i2l, 0, 0, 0), some (.lconst 0, 0, 0, 0), some (.ldc2_w 96, 0, 0, 127), none, none, some (.invokestatic 98, 149, 2, 3), none, none, some (.ifCond .ne 5, 14, 0, 0), none, none, some (.iconst (-1), 0, 0, 0), some (.ireturn, 0, 0, 0), some (.aload_n 0, 0, 0, 0), some (.getfield 102, 7, 13, 0)],
   [none, none, some (.sipush 160, 0, 0, 0), none, none, some (.if_icmp .ne 6, 27, 0, 0), none, none, some (.bipush (-3), 0, 0, 0), none, some (.ireturn, 0, 0, 0), some (.aload_n 0, 0, 0, 0), some (.getfield 20, 7, 12, 0), none, none, some (.aload_n 0, 0, 0, 0)],
   [some (.getfield 102, 7, 13, 0), none, none, some (.iload_n 1, 0, 0, 0), some (.iastore, 0, 0, 0), some (.aload_n 0, 0, 0, 0), some (.dup, 0, 0, 0), some (.getfield 102, 7, 13, 0), none, none, some (.iconst 1, 0, 0, 0), some (.iadd, 0, 0, 0), some (.putfield 102, 7, 13, 0), none, none, some (.aload_n 0, 0, 0, 0)],
   [some (.getfield 102, 7, 13, 0), none, none, some (.ireturn, 0, 0, 0)]])
def m_149 : pm_M := (⟨"MoodTownModel", "in", "(JJJ)Z"⟩, prog_9_method_3_code, 6, (some .boolean), 7, 3, 0, 0, 0, 0,
  [[some (.lload_n 0, 0, 0, 0), some (.lload_n 2, 0, 0, 0), some (.lcmp, 0, 0, 0), some (.ifCond .lt 14, 17, 0, 0), none, none, some (.lload_n 0, 0, 0, 0), some (.lload 4, 0, 0, 0), none, some (.lcmp, 0, 0, 0), some (.ifCond .gt 7, 17, 0, 0), none, none, some (.iconst 1, 0, 0, 0), some (.goto 4, 18, 0, 0)],
   [none, some (.iconst 0, 0, 0, 0), some (.ireturn, 0, 0, 0)]])
def m_150 : pm_M := (⟨"MoodTownModel", "end", "(I)I"⟩, prog_9_method_8_code, 3, (some .int), 7, 2, 1, 25, 0, 0,
  [[some (.iload_n 1, 0, 0, 0), some (.i2l, 0, 0, 0), some (.lconst 0, 0, 0, 0), some (.aload_n 0, 0, 0, 0), some (.getfield 102, 7, 13, 0), none, none, some (.i2l, 0, 0, 0), some (.invokestatic 98, 149, 2, 3), none, none, some (.ifCond .ne 5, 16, 0, 0), none, none, some (.iconst (-1), 0, 0, 0), some (.ireturn, 0, 0, 0)],
   [some (.aload_n 0, 0, 0, 0), some (.getfield 102, 7, 13, 0), none, none, some (.istore_n 2, 0, 0, 0), some (.aload_n 0, 0, 0, 0), some (.iload_n 1, 0, 0, 0), some (.putfield 102, 7, 13, 0), none, none, some (.iload_n 2, 0, 0, 0), some (.ireturn, 0, 0, 0)]])
def m_151 : pm_M := (⟨"MoodTownModel", "text", "()I"⟩, prog_9_method_22_code, 2, (some .int), 7, 1, 6, 136, 0, 0,
  [[some (.iconst 0, 0, 0, 0), some (.istore_n 1, 0, 0, 0), some (.aload_n 0, 0, 0, 0), some (.iconst 0, 0, 0, 0), some (.putfield 105, 7, 18, 0), none, none, some (.aload_n 0, 0, 0, 0), some (.iconst 0, 0, 0, 0), some (.putfield 114, 7, 14, 0), none, none, some (.aload_n 0, 0, 0, 0), some (.invokevirtual 62, 146, 0, 0)],
   [some (.aload_n 0, 0, 0, 0), some (.invokevirtual 150, 152, 0, 0), none, none, some (.aload_n 0, 0, 0, 0), some (.getfield 105, 7, 18, 0), none, none, some (.ifCond .ne 20, 44, 0, 0), none, none, some (.aload_n 0, 0, 0, 0), some (.getfield 128, 7, 16, 0), none, none, some (.ifCond .eq 13, 44, 0, 0)],
   [none, none, some (.aload_n 0, 0, 0, 0), some (.invokevirtual 177, 155, 0, 0), none, none, some (.iinc 1 1, 0, 0, 0), none, none, some (.goto (-21), 20, 0, 0), none, none, some (.aload_n 0, 0, 0, 0), some (.getfield 105, 7, 18, 0)],
   [some (.ifCond .ne 41, 89, 0, 0), none, none, some (.aload_n 0, 0, 0, 0), some (.aload_n 0, 0, 0, 0), some (.getfield 81, 7, 10, 0), none, none, some (.aload_n 0, 0, 0, 0), some (.getfield 68, 7, 6, 0), none, none, some (.aload_n 0, 0, 0, 0), some (.getfield 72, 7, 7, 0)],
   [some (.imul, 0, 0, 0), some (.if_icmp .ge 18, 83, 0, 0), none, none, some (.aload_n 0, 0, 0, 0), some (.getfield 84, 7, 11, 0), none, none, some (.aload_n 0, 0, 0, 0), some (.getfield 75, 7, 8, 0), none, none, some (.if_icmp .ge 7, 83, 0, 0), none, none, some (.iconst 1, 0, 0, 0)],
   [some (.goto 4, 84, 0, 0), none, none, some (.iconst 0, 0, 0, 0), some (.bipush 6, 0, 0, 0), none, some (.invokevirtual 142, 154, 0, 2), none, none, some (.aload_n 0, 0, 0, 0), some (.iconst 0, 0, 0, 0), some (.putfield 102, 7, 13, 0), none, none, some (.aload_n 0, 0, 0, 0), some (.getfield 105, 7, 18, 0)],
   [none, none, some (.ifCond .le 11, 109, 0, 0), none, none, some (.bipush (-10), 0, 0, 0), none, some (.aload_n 0, 0, 0, 0), some (.getfield 111, 7, 19, 0), none, none, some (.isub, 0, 0, 0), some (.ireturn, 0, 0, 0), some (.aload_n 0, 0, 0, 0), some (.invokevirtual 65, 147, 0, 0)],
   [none, some (.iload_n 1, 0, 0, 0), some (.ireturn, 0, 0, 0)]])
def m_152 : pm_M := (⟨"MoodTownModel", "next", "()V"⟩, prog_9_method_14_code, 2, none, 7, 1, 1, 25, 0, 0,
  [[some (.aload_n 0, 0, 0, 0), some (.getfield 105, 7, 18, 0), none, none, some (.ifCond .le 4, 8, 0, 0), none, none, some (.return_, 0, 0, 0), some (.aload_n 0, 0, 0, 0), some (.aload_n 0, 0, 0, 0), some (.getfield 114, 7, 14, 0), none, none, some (.invokevirtual 117, 153, 0, 1)],
   [some (.bipush 32, 0, 0, 0), none, some (.if_icmp .ne 16, 34, 0, 0), none, none, some (.aload_n 0, 0, 0, 0), some (.dup, 0, 0, 0), some (.getfield 114, 7, 14, 0), none, none, some (.iconst 1, 0, 0, 0), some (.iadd, 0, 0, 0), some (.putfield 114, 7, 14, 0), none, none, some (.goto (-23), 8, 0, 0)],
   [none, none, some (.aload_n 0, 0, 0, 0), some (.aload_n 0, 0, 0, 0), some (.getfield 114, 7, 14, 0), none, none, some (.putfield 108, 7, 15, 0), none, none, some (.aload_n 0, 0, 0, 0), some (.aload_n 0, 0, 0, 0), some (.getfield 114, 7, 14, 0), none, none, some (.invokevirtual 117, 153, 0, 1)],
   [none, none, some (.istore_n 1, 0, 0, 0), some (.iload_n 1, 0, 0, 0), some (.ifCond .ge 11, 63, 0, 0), none, none, some (.aload_n 0, 0, 0, 0), some (.iconst 0, 0, 0, 0), some (.putfield 128, 7, 16, 0), none, none, some (.goto 214, 274, 0, 0), none, none, some (.iload_n 1, 0, 0, 0)],
   [some (.i2l, 0, 0, 0), some (.ldc2_w 131, 0, 0, 97), none, none, some (.ldc2_w 133, 0, 0, 122), none, none, some (.invokestatic 98, 149, 2, 3), none, none, some (.ifCond .eq 42, 116, 0, 0), none, none, some (.aload_n 0, 0, 0, 0), some (.iconst 1, 0, 0, 0), some (.putfield 128, 7, 16, 0)],
   [none, none, some (.aload_n 0, 0, 0, 0), some (.aload_n 0, 0, 0, 0), some (.getfield 114, 7, 14, 0), none, none, some (.invokevirtual 117, 153, 0, 1), none, none, some (.i2l, 0, 0, 0), some (.ldc2_w 131, 0, 0, 97), none, none, some (.ldc2_w 133, 0, 0, 122)],
   [none, some (.invokestatic 98, 149, 2, 3), none, none, some (.ifCond .eq 174, 274, 0, 0), none, none, some (.aload_n 0, 0, 0, 0), some (.dup, 0, 0, 0), some (.getfield 114, 7, 14, 0), none, none, some (.iconst 1, 0, 0, 0), some (.iadd, 0, 0, 0), some (.putfield 114, 7, 14, 0)],
   [none, some (.goto (-31), 82, 0, 0), none, none, some (.iload_n 1, 0, 0, 0), some (.i2l, 0, 0, 0), some (.ldc2_w 135, 0, 0, 48), none, none, some (.ldc2_w 137, 0, 0, 57), none, none, some (.invokestatic 98, 149, 2, 3), none, none, some (.ifCond .eq 116, 243, 0, 0)],
   [none, none, some (.aload_n 0, 0, 0, 0), some (.iconst 2, 0, 0, 0), some (.putfield 128, 7, 16, 0), none, none, some (.aload_n 0, 0, 0, 0), some (.iconst 0, 0, 0, 0), some (.putfield 139, 7, 17, 0), none, none, some (.aload_n 0, 0, 0, 0), some (.aload_n 0, 0, 0, 0), some (.getfield 114, 7, 14, 0)],
   [none, some (.invokevirtual 117, 153, 0, 1), none, none, some (.i2l, 0, 0, 0), some (.ldc2_w 135, 0, 0, 48), none, none, some (.ldc2_w 137, 0, 0, 57), none, none, some (.invokestatic 98, 149, 2, 3), none, none, some (.ifCond .eq 59, 217, 0, 0)],
   [none, some (.aload_n 0, 0, 0, 0), some (.aload_n 0, 0, 0, 0), some (.getfield 114, 7, 14, 0), none, none, some (.aload_n 0, 0, 0, 0), some (.getfield 108, 7, 15, 0), none, none, some (.isub, 0, 0, 0), some (.iconst 2, 0, 0, 0), some (.if_icmp .ge 25, 197, 0, 0), none, none, some (.bipush 10, 0, 0, 0)],
   [none, some (.aload_n 0, 0, 0, 0), some (.getfield 139, 7, 17, 0), none, none, some (.imul, 0, 0, 0), some (.aload_n 0, 0, 0, 0), some (.aload_n 0, 0, 0, 0), some (.getfield 114, 7, 14, 0), none, none, some (.invokevirtual 117, 153, 0, 1), none, none, some (.iadd, 0, 0, 0), some (.bipush 48, 0, 0, 0)],
   [none, some (.isub, 0, 0, 0), some (.goto 7, 201, 0, 0), none, none, some (.aload_n 0, 0, 0, 0), some (.getfield 139, 7, 17, 0), none, none, some (.putfield 139, 7, 17, 0), none, none, some (.aload_n 0, 0, 0, 0), some (.dup, 0, 0, 0), some (.getfield 114, 7, 14, 0)],
   [none, some (.iconst 1, 0, 0, 0), some (.iadd, 0, 0, 0), some (.putfield 114, 7, 14, 0), none, none, some (.goto (-74), 140, 0, 0), none, none, some (.aload_n 0, 0, 0, 0), some (.aload_n 0, 0, 0, 0), some (.getfield 114, 7, 14, 0), none, none, some (.aload_n 0, 0, 0, 0), some (.getfield 108, 7, 15, 0)],
   [none, none, some (.isub, 0, 0, 0), some (.iconst 2, 0, 0, 0), some (.if_icmp .gt 7, 235, 0, 0), none, none, some (.iconst 1, 0, 0, 0), some (.goto 4, 236, 0, 0), none, none, some (.iconst 0, 0, 0, 0), some (.iconst 1, 0, 0, 0), some (.invokevirtual 142, 154, 0, 2)],
   [some (.goto 34, 274, 0, 0), none, none, some (.aload_n 0, 0, 0, 0), some (.iconst 3, 0, 0, 0), some (.putfield 128, 7, 16, 0), none, none, some (.aload_n 0, 0, 0, 0), some (.iload_n 1, 0, 0, 0), some (.bipush 59, 0, 0, 0), none, some (.if_icmp .ne 7, 259, 0, 0), none, none, some (.iconst 1, 0, 0, 0)],
   [some (.goto 4, 260, 0, 0), none, none, some (.iconst 0, 0, 0, 0), some (.iconst 1, 0, 0, 0), some (.invokevirtual 142, 154, 0, 2), none, none, some (.aload_n 0, 0, 0, 0), some (.dup, 0, 0, 0), some (.getfield 114, 7, 14, 0), none, none, some (.iconst 1, 0, 0, 0), some (.iadd, 0, 0, 0), some (.putfield 114, 7, 14, 0)],
   [none, none, some (.return_, 0, 0, 0)]])
def m_153 : pm_M := (⟨"MoodTownModel", "look", "(I)I"⟩, prog_9_method_10_code, 2, (some .int), 7, 2, 0, 0, 0, 0,
  [[some (.iload_n 1, 0, 0, 0), some (.aload_n 0, 0, 0, 0), some (.getfield 102, 7, 13, 0), none, none, some (.if_icmp .ge 12, 17, 0, 0), none, none, some (.aload_n 0, 0, 0, 0), some (.getfield 20, 7, 12, 0), none, none, some (.iload_n 1, 0, 0, 0), some (.iaload, 0, 0, 0), some (.goto 4, 18, 0, 0)],
   [none, some (.iconst (-1), 0, 0, 0), some (.ireturn, 0, 0, 0)]])
def m_154 : pm_M := (⟨"MoodTownModel", "needs", "(ZI)V"⟩, prog_9_method_9_code, 3, none, 7, 3, 0, 0, 0, 0,
  [[some (.iload_n 1, 0, 0, 0), some (.ifCond .ne 23, 24, 0, 0), none, none, some (.aload_n 0, 0, 0, 0), some (.getfield 105, 7, 18, 0), none, none, some (.ifCond .ne 16, 24, 0, 0), none, none, some (.aload_n 0, 0, 0, 0), some (.iload_n 2, 0, 0, 0), some (.putfield 105, 7, 18, 0)],
   [some (.aload_n 0, 0, 0, 0), some (.aload_n 0, 0, 0, 0), some (.getfield 108, 7, 15, 0), none, none, some (.putfield 111, 7, 19, 0), none, none, some (.return_, 0, 0, 0)]])
def m_155 : pm_M := (⟨"MoodTownModel", "readLine", "()V"⟩, prog_9_method_21_code, 2, none, 7, 1, 5, 115, 0, 0,
  [[some (.aload_n 0, 0, 0, 0), some (.getfield 128, 7, 16, 0), none, none, some (.iconst 1, 0, 0, 0), some (.if_icmp .ne 10, 15, 0, 0), none, none, some (.aload_n 0, 0, 0, 0), some (.invokevirtual 171, 156, 0, 0), none, none, some (.goto 5, 17, 0, 0), none, none, some (.bipush (-4), 0, 0, 0)],
   [none, some (.istore_n 1, 0, 0, 0), some (.aload_n 0, 0, 0, 0), some (.iload_n 1, 0, 0, 0), some (.bipush (-4), 0, 0, 0), none, some (.if_icmp .eq 7, 29, 0, 0), none, none, some (.iconst 1, 0, 0, 0), some (.goto 4, 30, 0, 0), none, none, some (.iconst 0, 0, 0, 0), some (.iconst 2, 0, 0, 0), some (.invokevirtual 142, 154, 0, 2)],
   [none, none, some (.aload_n 0, 0, 0, 0), some (.iload_n 1, 0, 0, 0), some (.iconst 4, 0, 0, 0), some (.if_icmp .eq 8, 45, 0, 0), none, none, some (.iload_n 1, 0, 0, 0), some (.iconst 5, 0, 0, 0), some (.if_icmp .ne 11, 53, 0, 0), none, none, some (.aload_n 0, 0, 0, 0), some (.getfield 75, 7, 8, 0)],
   [none, some (.iconst 5, 0, 0, 0), some (.if_icmp .ge 7, 57, 0, 0), none, none, some (.iconst 1, 0, 0, 0), some (.goto 4, 58, 0, 0), none, none, some (.iconst 0, 0, 0, 0), some (.iconst 5, 0, 0, 0), some (.invokevirtual 142, 154, 0, 2), none, none, some (.aload_n 0, 0, 0, 0), some (.getfield 105, 7, 18, 0)],
   [none, none, some (.ifCond .ne 41, 107, 0, 0), none, none, some (.iload_n 1, 0, 0, 0), some (.iconst 2, 0, 0, 0), some (.if_icmp .gt 36, 107, 0, 0), none, none, some (.aload_n 0, 0, 0, 0), some (.aload_n 0, 0, 0, 0), some (.getfield 78, 7, 9, 0), none, none, some (.iload_n 1, 0, 0, 0)],
   [some (.ishr, 0, 0, 0), some (.iconst 1, 0, 0, 0), some (.iand, 0, 0, 0), some (.ifCond .ne 7, 90, 0, 0), none, none, some (.iconst 1, 0, 0, 0), some (.goto 4, 91, 0, 0), none, none, some (.iconst 0, 0, 0, 0), some (.iconst 4, 0, 0, 0), some (.invokevirtual 142, 154, 0, 2), none, none, some (.aload_n 0, 0, 0, 0)],
   [some (.dup, 0, 0, 0), some (.getfield 78, 7, 9, 0), none, none, some (.iconst 1, 0, 0, 0), some (.iload_n 1, 0, 0, 0), some (.ishl, 0, 0, 0), some (.ior, 0, 0, 0), some (.putfield 78, 7, 9, 0), none, none, some (.aload_n 0, 0, 0, 0), some (.invokevirtual 150, 152, 0, 0), none, none, some (.aload_n 0, 0, 0, 0)],
   [some (.getfield 105, 7, 18, 0), none, none, some (.ifCond .le 4, 119, 0, 0), none, none, some (.return_, 0, 0, 0), some (.aload_n 0, 0, 0, 0), some (.iload_n 1, 0, 0, 0), some (.invokevirtual 174, 159, 0, 1), none, none, some (.aload_n 0, 0, 0, 0), some (.getfield 105, 7, 18, 0)],
   [some (.ifCond .ne 21, 149, 0, 0), none, none, some (.aload_n 0, 0, 0, 0), some (.aload_n 0, 0, 0, 0), some (.getfield 128, 7, 16, 0), none, none, some (.iconst 3, 0, 0, 0), some (.if_icmp .ne 7, 144, 0, 0), none, none, some (.iconst 1, 0, 0, 0), some (.goto 4, 145, 0, 0)],
   [some (.iconst 0, 0, 0, 0), some (.iconst 2, 0, 0, 0), some (.invokevirtual 142, 154, 0, 2), none, none, some (.aload_n 0, 0, 0, 0), some (.invokevirtual 150, 152, 0, 0), none, none, some (.return_, 0, 0, 0)]])
def m_156 : pm_M := (⟨"MoodTownModel", "lineNow", "()I"⟩, prog_9_method_13_code, 1, (some .int), 7, 1, 2, 44, 0, 0,
  [[some (.aload_n 0, 0, 0, 0), some (.iconst 4, 0, 0, 0), some (.bipush 116, 0, 0, 0), none, some (.bipush 111, 0, 0, 0), none, some (.invokevirtual 121, 157, 0, 3), none, none, some (.ifCond .eq 17, 26, 0, 0), none, none, some (.aload_n 0, 0, 0, 0), some (.bipush 119, 0, 0, 0), none, some (.bipush 110, 0, 0, 0)],
   [none, some (.iconst 0, 0, 0, 0), some (.invokevirtual 125, 158, 0, 3), none, none, some (.ifCond .eq 5, 26, 0, 0), none, none, some (.iconst 0, 0, 0, 0), some (.ireturn, 0, 0, 0), some (.aload_n 0, 0, 0, 0), some (.iconst 4, 0, 0, 0), some (.bipush 112, 0, 0, 0), none, some (.bipush 117, 0, 0, 0)],
   [some (.invokevirtual 121, 157, 0, 3), none, none, some (.ifCond .eq 17, 52, 0, 0), none, none, some (.aload_n 0, 0, 0, 0), some (.bipush 108, 0, 0, 0), none, some (.bipush 108, 0, 0, 0), none, some (.iconst 0, 0, 0, 0), some (.invokevirtual 125, 158, 0, 3), none, none, some (.ifCond .eq 5, 52, 0, 0)],
   [none, none, some (.iconst 1, 0, 0, 0), some (.ireturn, 0, 0, 0), some (.aload_n 0, 0, 0, 0), some (.iconst 5, 0, 0, 0), some (.bipush 112, 0, 0, 0), none, some (.bipush 114, 0, 0, 0), none, some (.invokevirtual 121, 157, 0, 3), none, none, some (.ifCond .eq 18, 79, 0, 0)],
   [some (.aload_n 0, 0, 0, 0), some (.bipush 101, 0, 0, 0), none, some (.bipush 115, 0, 0, 0), none, some (.bipush 115, 0, 0, 0), none, some (.invokevirtual 125, 158, 0, 3), none, none, some (.ifCond .eq 5, 79, 0, 0), none, none, some (.iconst 2, 0, 0, 0), some (.ireturn, 0, 0, 0), some (.aload_n 0, 0, 0, 0)],
   [some (.iconst 4, 0, 0, 0), some (.bipush 119, 0, 0, 0), none, some (.bipush 97, 0, 0, 0), none, some (.invokevirtual 121, 157, 0, 3), none, none, some (.ifCond .eq 17, 105, 0, 0), none, none, some (.aload_n 0, 0, 0, 0), some (.bipush 108, 0, 0, 0), none, some (.bipush 108, 0, 0, 0)],
   [some (.iconst 0, 0, 0, 0), some (.invokevirtual 125, 158, 0, 3), none, none, some (.ifCond .eq 5, 105, 0, 0), none, none, some (.iconst 3, 0, 0, 0), some (.ireturn, 0, 0, 0), some (.aload_n 0, 0, 0, 0), some (.iconst 2, 0, 0, 0), some (.bipush 97, 0, 0, 0), none, some (.bipush 116, 0, 0, 0), none, some (.invokevirtual 121, 157, 0, 3)],
   [none, none, some (.ifCond .eq 5, 119, 0, 0), none, none, some (.iconst 4, 0, 0, 0), some (.ireturn, 0, 0, 0), some (.aload_n 0, 0, 0, 0), some (.iconst 5, 0, 0, 0), some (.bipush 115, 0, 0, 0), none, some (.bipush 116, 0, 0, 0), none, some (.invokevirtual 121, 157, 0, 3)],
   [some (.ifCond .eq 20, 148, 0, 0), none, none, some (.aload_n 0, 0, 0, 0), some (.bipush 105, 0, 0, 0), none, some (.bipush 108, 0, 0, 0), none, some (.bipush 108, 0, 0, 0), none, some (.invokevirtual 125, 158, 0, 3), none, none, some (.ifCond .eq 7, 148, 0, 0)],
   [some (.iconst 5, 0, 0, 0), some (.goto 34, 179, 0, 0), none, none, some (.aload_n 0, 0, 0, 0), some (.iconst 4, 0, 0, 0), some (.bipush 103, 0, 0, 0), none, some (.bipush 111, 0, 0, 0), none, some (.invokevirtual 121, 157, 0, 3), none, none, some (.ifCond .eq 20, 177, 0, 0)],
   [some (.aload_n 0, 0, 0, 0), some (.bipush 97, 0, 0, 0), none, some (.bipush 108, 0, 0, 0), none, some (.iconst 0, 0, 0, 0), some (.invokevirtual 125, 158, 0, 3), none, none, some (.ifCond .eq 8, 177, 0, 0), none, none, some (.bipush 6, 0, 0, 0), none, some (.goto 5, 179, 0, 0)],
   [none, some (.bipush (-4), 0, 0, 0), none, some (.ireturn, 0, 0, 0)]])
def m_157 : pm_M := (⟨"MoodTownModel", "is", "(III)Z"⟩, prog_9_method_11_code, 4, (some .boolean), 7, 4, 1, 21, 0, 0,
  [[some (.aload_n 0, 0, 0, 0), some (.getfield 114, 7, 14, 0), none, none, some (.aload_n 0, 0, 0, 0), some (.getfield 108, 7, 15, 0), none, none, some (.isub, 0, 0, 0), some (.iload_n 1, 0, 0, 0), some (.if_icmp .ne 33, 43, 0, 0), none, none, some (.aload_n 0, 0, 0, 0), some (.aload_n 0, 0, 0, 0), some (.getfield 108, 7, 15, 0)],
   [none, none, some (.invokevirtual 117, 153, 0, 1), none, none, some (.iload_n 2, 0, 0, 0), some (.if_icmp .ne 21, 43, 0, 0), none, none, some (.aload_n 0, 0, 0, 0), some (.aload_n 0, 0, 0, 0), some (.getfield 108, 7, 15, 0), none, none, some (.iconst 1, 0, 0, 0), some (.iadd, 0, 0, 0)],
   [some (.invokevirtual 117, 153, 0, 1), none, none, some (.iload_n 3, 0, 0, 0), some (.if_icmp .ne 7, 43, 0, 0), none, none, some (.iconst 1, 0, 0, 0), some (.goto 4, 44, 0, 0), none, none, some (.iconst 0, 0, 0, 0), some (.ireturn, 0, 0, 0)]])
def m_158 : pm_M := (⟨"MoodTownModel", "ends", "(III)Z"⟩, prog_9_method_12_code, 4, (some .boolean), 7, 4, 1, 21, 0, 0,
  [[some (.aload_n 0, 0, 0, 0), some (.aload_n 0, 0, 0, 0), some (.getfield 108, 7, 15, 0), none, none, some (.iconst 2, 0, 0, 0), some (.iadd, 0, 0, 0), some (.invokevirtual 117, 153, 0, 1), none, none, some (.iload_n 1, 0, 0, 0), some (.if_icmp .ne 39, 50, 0, 0), none, none, some (.aload_n 0, 0, 0, 0), some (.aload_n 0, 0, 0, 0)],
   [some (.getfield 108, 7, 15, 0), none, none, some (.iconst 3, 0, 0, 0), some (.iadd, 0, 0, 0), some (.invokevirtual 117, 153, 0, 1), none, none, some (.iload_n 2, 0, 0, 0), some (.if_icmp .ne 25, 50, 0, 0), none, none, some (.iload_n 3, 0, 0, 0), some (.ifCond .eq 17, 46, 0, 0)],
   [some (.aload_n 0, 0, 0, 0), some (.aload_n 0, 0, 0, 0), some (.getfield 108, 7, 15, 0), none, none, some (.iconst 4, 0, 0, 0), some (.iadd, 0, 0, 0), some (.invokevirtual 117, 153, 0, 1), none, none, some (.iload_n 3, 0, 0, 0), some (.if_icmp .ne 7, 50, 0, 0), none, none, some (.iconst 1, 0, 0, 0), some (.goto 4, 51, 0, 0)],
   [none, none, some (.iconst 0, 0, 0, 0), some (.ireturn, 0, 0, 0)]])
def m_159 : pm_M := (⟨"MoodTownModel", "readLineOf", "(I)V"⟩, prog_9_method_20_code, 3, none, 7, 2, 4, 93, 0, 0,
  [[some (.iload_n 1, 0, 0, 0), some (.tableswitch 153 0 6 #[43, 66, 98, 114, 153, 153, 146], 0, 0, 0)],
   [],
   [none, none, none, none, none, none, none, none, none, none, none, none, some (.aload_n 0, 0, 0, 0), some (.aload_n 0, 0, 0, 0), some (.iconst 2, 0, 0, 0), some (.iconst 5, 0, 0, 0)],
   [some (.invokevirtual 157, 160, 0, 2), none, none, some (.putfield 68, 7, 6, 0), none, none, some (.aload_n 0, 0, 0, 0), some (.aload_n 0, 0, 0, 0), some (.iconst 2, 0, 0, 0), some (.iconst 5, 0, 0, 0), some (.invokevirtual 157, 160, 0, 2), none, none, some (.putfield 72, 7, 7, 0)],
   [some (.goto 107, 171, 0, 0), none, none, some (.iconst 0, 0, 0, 0), some (.istore_n 2, 0, 0, 0), some (.iload_n 2, 0, 0, 0), some (.iconst 4, 0, 0, 0), some (.if_icmp .ge 25, 96, 0, 0), none, none, some (.aload_n 0, 0, 0, 0), some (.getfield 17, 7, 5, 0), none, none, some (.bipush 21, 0, 0, 0)],
   [some (.iload_n 2, 0, 0, 0), some (.iadd, 0, 0, 0), some (.aload_n 0, 0, 0, 0), some (.iconst 0, 0, 0, 0), some (.bipush 9, 0, 0, 0), none, some (.invokevirtual 157, 160, 0, 2), none, none, some (.iastore, 0, 0, 0), some (.iinc 2 1, 0, 0, 0), none, none, some (.goto (-24), 69, 0, 0)],
   [some (.goto 75, 171, 0, 0), none, none, some (.aload_n 0, 0, 0, 0), some (.getfield 17, 7, 5, 0), none, none, some (.bipush 25, 0, 0, 0), none, some (.aload_n 0, 0, 0, 0), some (.iconst 0, 0, 0, 0), some (.iconst 4, 0, 0, 0), some (.invokevirtual 157, 160, 0, 2), none, none, some (.iastore, 0, 0, 0)],
   [some (.goto 59, 171, 0, 0), none, none, some (.aload_n 0, 0, 0, 0), some (.invokevirtual 153, 162, 0, 0), none, none, some (.istore_n 2, 0, 0, 0), some (.aload_n 0, 0, 0, 0), some (.getfield 17, 7, 5, 0), none, none, some (.bipush 20, 0, 0, 0), none, some (.dup2, 0, 0, 0), some (.iaload, 0, 0, 0)],
   [some (.aload_n 0, 0, 0, 0), some (.getfield 105, 7, 18, 0), none, none, some (.ifCond .ne 9, 141, 0, 0), none, none, some (.iconst 1, 0, 0, 0), some (.iload_n 2, 0, 0, 0), some (.ishl, 0, 0, 0), some (.goto 4, 142, 0, 0), none, none, some (.iconst 0, 0, 0, 0), some (.ior, 0, 0, 0), some (.iastore, 0, 0, 0)],
   [some (.goto 27, 171, 0, 0), none, none, some (.aload_n 0, 0, 0, 0), some (.invokevirtual 160, 163, 0, 0), none, none, some (.goto 20, 171, 0, 0), none, none, some (.aload_n 0, 0, 0, 0), some (.iload_n 1, 0, 0, 0), some (.iconst 5, 0, 0, 0), some (.if_icmp .ne 7, 164, 0, 0)],
   [some (.iconst 1, 0, 0, 0), some (.goto 4, 165, 0, 0), none, none, some (.iconst 0, 0, 0, 0), some (.invokestatic 163, 164, 2, 1), none, none, some (.invokevirtual 167, 165, 0, 1), none, none, some (.return_, 0, 0, 0)]])
def m_160 : pm_M := (⟨"MoodTownModel", "readNumber", "(II)I"⟩, prog_9_method_16_code, 4, (some .int), 7, 3, 2, 47, 0, 0,
  [[some (.aload_n 0, 0, 0, 0), some (.iload_n 1, 0, 0, 0), some (.iload_n 2, 0, 0, 0), some (.invokevirtual 146, 161, 0, 2), none, none, some (.istore_n 3, 0, 0, 0), some (.aload_n 0, 0, 0, 0), some (.invokevirtual 150, 152, 0, 0), none, none, some (.iload_n 3, 0, 0, 0), some (.ireturn, 0, 0, 0)]])
def m_161 : pm_M := (⟨"MoodTownModel", "looked", "(II)I"⟩, prog_9_method_15_code, 3, (some .int), 7, 3, 1, 25, 0, 0,
  [[some (.aload_n 0, 0, 0, 0), some (.getfield 105, 7, 18, 0), none, none, some (.ifCond .ne 21, 25, 0, 0), none, none, some (.aload_n 0, 0, 0, 0), some (.aload_n 0, 0, 0, 0), some (.getfield 128, 7, 16, 0), none, none, some (.iconst 2, 0, 0, 0), some (.if_icmp .ne 7, 20, 0, 0)],
   [some (.iconst 1, 0, 0, 0), some (.goto 4, 21, 0, 0), none, none, some (.iconst 0, 0, 0, 0), some (.iconst 2, 0, 0, 0), some (.invokevirtual 142, 154, 0, 2), none, none, some (.aload_n 0, 0, 0, 0), some (.getfield 105, 7, 18, 0), none, none, some (.ifCond .ne 20, 49, 0, 0)],
   [some (.aload_n 0, 0, 0, 0), some (.aload_n 0, 0, 0, 0), some (.getfield 139, 7, 17, 0), none, none, some (.i2l, 0, 0, 0), some (.iload_n 1, 0, 0, 0), some (.i2l, 0, 0, 0), some (.iload_n 2, 0, 0, 0), some (.i2l, 0, 0, 0), some (.invokestatic 98, 149, 2, 3), none, none, some (.iconst 3, 0, 0, 0), some (.invokevirtual 142, 154, 0, 2)],
   [none, some (.aload_n 0, 0, 0, 0), some (.getfield 105, 7, 18, 0), none, none, some (.ifCond .ne 10, 63, 0, 0), none, none, some (.aload_n 0, 0, 0, 0), some (.getfield 139, 7, 17, 0), none, none, some (.goto 4, 64, 0, 0), none, none, some (.iconst 0, 0, 0, 0)],
   [some (.ireturn, 0, 0, 0)]])
def m_162 : pm_M := (⟨"MoodTownModel", "readFree", "()I"⟩, prog_9_method_17_code, 4, (some .int), 7, 1, 2, 47, 0, 0,
  [[some (.aload_n 0, 0, 0, 0), some (.iconst 0, 0, 0, 0), some (.bipush 24, 0, 0, 0), none, some (.invokevirtual 146, 161, 0, 2), none, none, some (.istore_n 1, 0, 0, 0), some (.aload_n 0, 0, 0, 0), some (.getfield 105, 7, 18, 0), none, none, some (.ifCond .ne 67, 79, 0, 0), none, none, some (.aload_n 0, 0, 0, 0)],
   [some (.getfield 17, 7, 5, 0), none, none, some (.bipush 20, 0, 0, 0), none, some (.iaload, 0, 0, 0), some (.iload_n 1, 0, 0, 0), some (.ishr, 0, 0, 0), some (.iconst 1, 0, 0, 0), some (.iand, 0, 0, 0), some (.ifCond .ne 7, 33, 0, 0), none, none, some (.iconst 1, 0, 0, 0), some (.goto 4, 34, 0, 0)],
   [none, some (.iconst 0, 0, 0, 0), some (.istore_n 2, 0, 0, 0), some (.iconst 0, 0, 0, 0), some (.istore_n 3, 0, 0, 0), some (.iload_n 3, 0, 0, 0), some (.aload_n 0, 0, 0, 0), some (.getfield 75, 7, 8, 0), none, none, some (.if_icmp .ge 31, 73, 0, 0), none, none, some (.iload_n 2, 0, 0, 0), some (.ifCond .eq 19, 65, 0, 0)],
   [none, some (.aload_n 0, 0, 0, 0), some (.getfield 17, 7, 5, 0), none, none, some (.iconst 0, 0, 0, 0), some (.iload_n 3, 0, 0, 0), some (.iadd, 0, 0, 0), some (.iaload, 0, 0, 0), some (.iload_n 1, 0, 0, 0), some (.if_icmp .eq 7, 65, 0, 0), none, none, some (.iconst 1, 0, 0, 0), some (.goto 4, 66, 0, 0)],
   [none, some (.iconst 0, 0, 0, 0), some (.istore_n 2, 0, 0, 0), some (.iinc 3 1, 0, 0, 0), none, none, some (.goto (-33), 37, 0, 0), none, none, some (.aload_n 0, 0, 0, 0), some (.iload_n 2, 0, 0, 0), some (.iconst 4, 0, 0, 0), some (.invokevirtual 142, 154, 0, 2), none, none, some (.aload_n 0, 0, 0, 0)],
   [some (.getfield 105, 7, 18, 0), none, none, some (.ifCond .ne 23, 106, 0, 0), none, none, some (.aload_n 0, 0, 0, 0), some (.iload_n 1, 0, 0, 0), some (.aload_n 0, 0, 0, 0), some (.getfield 81, 7, 10, 0), none, none, some (.if_icmp .le 7, 99, 0, 0), none, none, some (.iload_n 1, 0, 0, 0)],
   [some (.goto 7, 103, 0, 0), none, none, some (.aload_n 0, 0, 0, 0), some (.getfield 81, 7, 10, 0), none, none, some (.putfield 81, 7, 10, 0), none, none, some (.aload_n 0, 0, 0, 0), some (.invokevirtual 150, 152, 0, 0), none, none, some (.iload_n 1, 0, 0, 0), some (.ireturn, 0, 0, 0)]])
def m_163 : pm_M := (⟨"MoodTownModel", "readGoal", "()V"⟩, prog_9_method_19_code, 3, none, 7, 1, 3, 70, 0, 0,
  [[some (.aload_n 0, 0, 0, 0), some (.iconst 0, 0, 0, 0), some (.iconst 4, 0, 0, 0), some (.invokevirtual 146, 161, 0, 2), none, none, some (.istore_n 1, 0, 0, 0), some (.aload_n 0, 0, 0, 0), some (.getfield 105, 7, 18, 0), none, none, some (.ifCond .ne 27, 38, 0, 0), none, none, some (.aload_n 0, 0, 0, 0), some (.aload_n 0, 0, 0, 0)],
   [some (.getfield 17, 7, 5, 0), none, none, some (.bipush 15, 0, 0, 0), none, some (.iload_n 1, 0, 0, 0), some (.iadd, 0, 0, 0), some (.iaload, 0, 0, 0), some (.bipush (-4), 0, 0, 0), none, some (.if_icmp .ne 7, 33, 0, 0), none, none, some (.iconst 1, 0, 0, 0), some (.goto 4, 34, 0, 0)],
   [none, some (.iconst 0, 0, 0, 0), some (.iconst 4, 0, 0, 0), some (.invokevirtual 142, 154, 0, 2), none, none, some (.aload_n 0, 0, 0, 0), some (.invokevirtual 150, 152, 0, 0), none, none, some (.aload_n 0, 0, 0, 0), some (.iconst 0, 0, 0, 0), some (.bipush 24, 0, 0, 0), none, some (.invokevirtual 157, 160, 0, 2)],
   [none, some (.istore_n 2, 0, 0, 0), some (.aload_n 0, 0, 0, 0), some (.getfield 105, 7, 18, 0), none, none, some (.ifCond .ne 53, 107, 0, 0), none, none, some (.aload_n 0, 0, 0, 0), some (.iload_n 1, 0, 0, 0), some (.aload_n 0, 0, 0, 0), some (.getfield 84, 7, 11, 0), none, none, some (.if_icmp .le 7, 70, 0, 0)],
   [none, none, some (.iload_n 1, 0, 0, 0), some (.goto 7, 74, 0, 0), none, none, some (.aload_n 0, 0, 0, 0), some (.getfield 84, 7, 11, 0), none, none, some (.putfield 84, 7, 11, 0), none, none, some (.aload_n 0, 0, 0, 0), some (.iload_n 2, 0, 0, 0), some (.aload_n 0, 0, 0, 0)],
   [some (.getfield 81, 7, 10, 0), none, none, some (.if_icmp .le 7, 90, 0, 0), none, none, some (.iload_n 2, 0, 0, 0), some (.goto 7, 94, 0, 0), none, none, some (.aload_n 0, 0, 0, 0), some (.getfield 81, 7, 10, 0), none, none, some (.putfield 81, 7, 10, 0)],
   [none, some (.aload_n 0, 0, 0, 0), some (.getfield 17, 7, 5, 0), none, none, some (.bipush 15, 0, 0, 0), none, some (.iload_n 1, 0, 0, 0), some (.iadd, 0, 0, 0), some (.iload_n 2, 0, 0, 0), some (.iastore, 0, 0, 0), some (.return_, 0, 0, 0)]])
def m_164 : pm_M := (⟨"MoodTownModel", "flag", "(Z)I"⟩, prog_9_method_4_code, 1, (some .int), 7, 1, 0, 0, 0, 0,
  [[some (.iload_n 0, 0, 0, 0), some (.ifCond .eq 7, 8, 0, 0), none, none, some (.iconst 1, 0, 0, 0), some (.goto 4, 9, 0, 0), none, none, some (.iconst 0, 0, 0, 0), some (.ireturn, 0, 0, 0)]])
def m_165 : pm_M := (⟨"MoodTownModel", "readOne", "(I)V"⟩, prog_9_method_18_code, 4, none, 7, 2, 3, 70, 0, 0,
  [[some (.aload_n 0, 0, 0, 0), some (.invokevirtual 153, 162, 0, 0), none, none, some (.istore_n 2, 0, 0, 0), some (.aload_n 0, 0, 0, 0), some (.iconst 0, 0, 0, 0), some (.iconst 3, 0, 0, 0), some (.invokevirtual 157, 160, 0, 2), none, none, some (.istore_n 3, 0, 0, 0), some (.aload_n 0, 0, 0, 0), some (.getfield 105, 7, 18, 0)],
   [some (.ifCond .ne 50, 66, 0, 0), none, none, some (.aload_n 0, 0, 0, 0), some (.getfield 17, 7, 5, 0), none, none, some (.iconst 0, 0, 0, 0), some (.aload_n 0, 0, 0, 0), some (.getfield 75, 7, 8, 0), none, none, some (.iadd, 0, 0, 0), some (.iload_n 2, 0, 0, 0), some (.iastore, 0, 0, 0), some (.aload_n 0, 0, 0, 0)],
   [some (.getfield 17, 7, 5, 0), none, none, some (.iconst 5, 0, 0, 0), some (.aload_n 0, 0, 0, 0), some (.getfield 75, 7, 8, 0), none, none, some (.iadd, 0, 0, 0), some (.iload_n 3, 0, 0, 0), some (.iastore, 0, 0, 0), some (.aload_n 0, 0, 0, 0), some (.getfield 17, 7, 5, 0), none, none, some (.bipush 10, 0, 0, 0)],
   [none, some (.aload_n 0, 0, 0, 0), some (.getfield 75, 7, 8, 0), none, none, some (.iadd, 0, 0, 0), some (.iload_n 1, 0, 0, 0), some (.iastore, 0, 0, 0), some (.aload_n 0, 0, 0, 0), some (.dup, 0, 0, 0), some (.getfield 75, 7, 8, 0), none, none, some (.iconst 1, 0, 0, 0), some (.iadd, 0, 0, 0), some (.putfield 75, 7, 8, 0)],
   [none, none, some (.return_, 0, 0, 0)]])
def m_166 : pm_M := (⟨"MoodTownModel", "fault", "()I"⟩, prog_9_method_23_code, 1, (some .int), 7, 1, 0, 0, 0, 0,
  [[some (.aload_n 0, 0, 0, 0), some (.getfield 105, 7, 18, 0), none, none, some (.ireturn, 0, 0, 0)]])
def m_167 : pm_M := (⟨"MoodTownModel", "rule", "(I)I"⟩, prog_9_method_41_code, 2, (some .int), 7, 2, 1, 25, 0, 0,
  [[some (.iload_n 1, 0, 0, 0), some (.tableswitch 78 0 5 #[39, 44, 49, 57, 62, 70], 0, 0, 0)],
   [],
   [none, none, none, none, none, none, none, none, some (.aload_n 0, 0, 0, 0), some (.getfield 87, 7, 2, 0), none, none, some (.ireturn, 0, 0, 0), some (.aload_n 0, 0, 0, 0), some (.getfield 90, 7, 3, 0)],
   [none, some (.ireturn, 0, 0, 0), some (.aload_n 0, 0, 0, 0), some (.getfield 7, 7, 0, 0), none, none, some (.bipush 20, 0, 0, 0), none, some (.iaload, 0, 0, 0), some (.ireturn, 0, 0, 0), some (.aload_n 0, 0, 0, 0), some (.getfield 93, 7, 4, 0), none, none, some (.ireturn, 0, 0, 0), some (.aload_n 0, 0, 0, 0)],
   [some (.getfield 7, 7, 0, 0), none, none, some (.bipush 25, 0, 0, 0), none, some (.iaload, 0, 0, 0), some (.ireturn, 0, 0, 0), some (.aload_n 0, 0, 0, 0), some (.getfield 7, 7, 0, 0), none, none, some (.bipush 26, 0, 0, 0), none, some (.iaload, 0, 0, 0), some (.ireturn, 0, 0, 0), some (.iload_n 1, 0, 0, 0)],
   [some (.bipush 10, 0, 0, 0), none, some (.isub, 0, 0, 0), some (.i2l, 0, 0, 0), some (.lconst 1, 0, 0, 0), some (.ldc2_w 189, 0, 0, 4), none, none, some (.invokestatic 98, 149, 2, 3), none, none, some (.ifCond .eq 18, 109, 0, 0), none, none, some (.aload_n 0, 0, 0, 0), some (.getfield 7, 7, 0, 0)],
   [none, none, some (.bipush 21, 0, 0, 0), none, some (.iload_n 1, 0, 0, 0), some (.iadd, 0, 0, 0), some (.bipush 11, 0, 0, 0), none, some (.isub, 0, 0, 0), some (.iaload, 0, 0, 0), some (.goto 4, 110, 0, 0), none, none, some (.iconst (-1), 0, 0, 0), some (.ireturn, 0, 0, 0)]])
def m_168 : pm_M := (⟨"MoodTownModel", "one", "(II)I"⟩, prog_9_method_42_code, 3, (some .int), 7, 3, 2, 46, 0, 0,
  [[some (.aload_n 0, 0, 0, 0), some (.iload_n 1, 0, 0, 0), some (.invokevirtual 227, 169, 0, 1), none, none, some (.ifCond .eq 28, 33, 0, 0), none, none, some (.iload_n 2, 0, 0, 0), some (.i2l, 0, 0, 0), some (.lconst 0, 0, 0, 0), some (.ldc2_w 230, 0, 0, 3), none, none, some (.invokestatic 98, 149, 2, 3)],
   [none, some (.ifCond .eq 16, 33, 0, 0), none, none, some (.aload_n 0, 0, 0, 0), some (.getfield 7, 7, 0, 0), none, none, some (.iconst 5, 0, 0, 0), some (.iload_n 2, 0, 0, 0), some (.imul, 0, 0, 0), some (.iload_n 1, 0, 0, 0), some (.iadd, 0, 0, 0), some (.iaload, 0, 0, 0), some (.goto 4, 34, 0, 0)],
   [none, some (.iconst (-1), 0, 0, 0), some (.ireturn, 0, 0, 0)]])
def m_169 : pm_M := (⟨"MoodTownModel", "isOne", "(I)Z"⟩, prog_9_method_25_code, 2, (some .boolean), 7, 2, 1, 25, 0, 0,
  [[some (.iload_n 1, 0, 0, 0), some (.i2l, 0, 0, 0), some (.lconst 0, 0, 0, 0), some (.aload_n 0, 0, 0, 0), some (.getfield 93, 7, 4, 0), none, none, some (.iconst 1, 0, 0, 0), some (.isub, 0, 0, 0), some (.i2l, 0, 0, 0), some (.invokestatic 98, 149, 2, 3), none, none, some (.ireturn, 0, 0, 0)]])
def m_170 : pm_M := (⟨"MoodTownModel", "cell", "(I)I"⟩, prog_9_method_43_code, 2, (some .int), 7, 2, 2, 46, 0, 0,
  [[some (.aload_n 0, 0, 0, 0), some (.iload_n 1, 0, 0, 0), some (.invokevirtual 232, 171, 0, 1), none, none, some (.ifCond .ne 5, 10, 0, 0), none, none, some (.iconst (-1), 0, 0, 0), some (.ireturn, 0, 0, 0), some (.aload_n 0, 0, 0, 0), some (.invokevirtual 235, 172, 0, 0), none, none, some (.aload_n 0, 0, 0, 0), some (.iload_n 1, 0, 0, 0)],
   [some (.invokevirtual 201, 173, 0, 1), none, none, some (.ireturn, 0, 0, 0)]])
def m_171 : pm_M := (⟨"MoodTownModel", "isCell", "(I)Z"⟩, prog_9_method_24_code, 2, (some .boolean), 7, 2, 1, 25, 0, 0,
  [[some (.iload_n 1, 0, 0, 0), some (.i2l, 0, 0, 0), some (.lconst 0, 0, 0, 0), some (.aload_n 0, 0, 0, 0), some (.getfield 87, 7, 2, 0), none, none, some (.aload_n 0, 0, 0, 0), some (.getfield 90, 7, 3, 0), none, none, some (.imul, 0, 0, 0), some (.iconst 1, 0, 0, 0), some (.isub, 0, 0, 0), some (.i2l, 0, 0, 0), some (.invokestatic 98, 149, 2, 3)],
   [none, none, some (.ireturn, 0, 0, 0)]])
def m_172 : pm_M := (⟨"MoodTownModel", "starts", "()V"⟩, prog_9_method_26_code, 2, none, 7, 1, 0, 0, 0, 0,
  [[some (.aload_n 0, 0, 0, 0), some (.aload_n 0, 0, 0, 0), some (.getfield 93, 7, 4, 0), none, none, some (.putfield 180, 7, 27, 0), none, none, some (.iconst 0, 0, 0, 0), some (.istore_n 1, 0, 0, 0), some (.iload_n 1, 0, 0, 0), some (.iconst 5, 0, 0, 0), some (.if_icmp .ge 67, 79, 0, 0), none, none, some (.aload_n 0, 0, 0, 0)],
   [some (.getfield 23, 7, 20, 0), none, none, some (.iload_n 1, 0, 0, 0), some (.aload_n 0, 0, 0, 0), some (.getfield 7, 7, 0, 0), none, none, some (.iconst 0, 0, 0, 0), some (.iload_n 1, 0, 0, 0), some (.iadd, 0, 0, 0), some (.iaload, 0, 0, 0), some (.iastore, 0, 0, 0), some (.aload_n 0, 0, 0, 0), some (.getfield 26, 7, 21, 0)],
   [none, some (.iload_n 1, 0, 0, 0), some (.aload_n 0, 0, 0, 0), some (.getfield 7, 7, 0, 0), none, none, some (.iconst 5, 0, 0, 0), some (.iload_n 1, 0, 0, 0), some (.iadd, 0, 0, 0), some (.iaload, 0, 0, 0), some (.iastore, 0, 0, 0), some (.aload_n 0, 0, 0, 0), some (.getfield 29, 7, 22, 0), none, none, some (.iload_n 1, 0, 0, 0)],
   [some (.aload_n 0, 0, 0, 0), some (.getfield 7, 7, 0, 0), none, none, some (.bipush 10, 0, 0, 0), none, some (.iload_n 1, 0, 0, 0), some (.iadd, 0, 0, 0), some (.iaload, 0, 0, 0), some (.iastore, 0, 0, 0), some (.aload_n 0, 0, 0, 0), some (.getfield 32, 7, 23, 0), none, none, some (.iload_n 1, 0, 0, 0), some (.aload_n 0, 0, 0, 0)],
   [some (.getfield 7, 7, 0, 0), none, none, some (.bipush 15, 0, 0, 0), none, some (.iload_n 1, 0, 0, 0), some (.iadd, 0, 0, 0), some (.iaload, 0, 0, 0), some (.iastore, 0, 0, 0), some (.iinc 1 1, 0, 0, 0), none, none, some (.goto (-66), 10, 0, 0), none, none, some (.return_, 0, 0, 0)]])
def m_173 : pm_M := (⟨"MoodTownModel", "whoIsIn", "(I)I"⟩, prog_9_method_33_code, 4, (some .int), 7, 2, 0, 0, 0, 0,
  [[some (.bipush (-4), 0, 0, 0), none, some (.istore_n 2, 0, 0, 0), some (.iconst 0, 0, 0, 0), some (.istore_n 3, 0, 0, 0), some (.iload_n 3, 0, 0, 0), some (.aload_n 0, 0, 0, 0), some (.getfield 180, 7, 27, 0), none, none, some (.if_icmp .ge 25, 35, 0, 0), none, none, some (.aload_n 0, 0, 0, 0), some (.getfield 23, 7, 20, 0)],
   [none, some (.iload_n 3, 0, 0, 0), some (.iaload, 0, 0, 0), some (.iload_n 1, 0, 0, 0), some (.if_icmp .ne 7, 27, 0, 0), none, none, some (.iload_n 3, 0, 0, 0), some (.goto 4, 28, 0, 0), none, none, some (.iload_n 2, 0, 0, 0), some (.istore_n 2, 0, 0, 0), some (.iinc 3 1, 0, 0, 0)],
   [some (.goto (-27), 5, 0, 0), none, none, some (.iload_n 2, 0, 0, 0), some (.ireturn, 0, 0, 0)]])
def m_174 : pm_M := (⟨"MoodTownModel", "mood", "(II)I"⟩, prog_9_method_45_code, 3, (some .int), 7, 3, 2, 46, 0, 0,
  [[some (.aload_n 0, 0, 0, 0), some (.iload_n 1, 0, 0, 0), some (.invokevirtual 227, 169, 0, 1), none, none, some (.ifCond .eq 26, 31, 0, 0), none, none, some (.iload_n 2, 0, 0, 0), some (.i2l, 0, 0, 0), some (.lconst 0, 0, 0, 0), some (.ldc2_w 230, 0, 0, 3), none, none, some (.invokestatic 98, 149, 2, 3)],
   [none, some (.ifCond .eq 14, 31, 0, 0), none, none, some (.aload_n 0, 0, 0, 0), some (.iconst 5, 0, 0, 0), some (.iload_n 1, 0, 0, 0), some (.iadd, 0, 0, 0), some (.iload_n 2, 0, 0, 0), some (.invokevirtual 238, 175, 0, 2), none, none, some (.goto 4, 32, 0, 0), none, none, some (.iconst (-1), 0, 0, 0)],
   [some (.ireturn, 0, 0, 0)]])
def m_175 : pm_M := (⟨"MoodTownModel", "becomes", "(II)I"⟩, prog_9_method_44_code, 4, (some .int), 7, 3, 0, 0, 0, 0,
  [[some (.aload_n 0, 0, 0, 0), some (.getfield 7, 7, 0, 0), none, none, some (.iload_n 1, 0, 0, 0), some (.iaload, 0, 0, 0), some (.istore_n 3, 0, 0, 0), some (.aload_n 0, 0, 0, 0), some (.getfield 7, 7, 0, 0), none, none, some (.iload_n 1, 0, 0, 0), some (.iload_n 2, 0, 0, 0), some (.iastore, 0, 0, 0), some (.iload_n 3, 0, 0, 0), some (.ireturn, 0, 0, 0)]])
def m_176 : pm_M := (⟨"MoodTownModel", "put", "(II)I"⟩, prog_9_method_46_code, 4, (some .int), 7, 3, 2, 46, 0, 0,
  [[some (.aload_n 0, 0, 0, 0), some (.iload_n 1, 0, 0, 0), some (.invokevirtual 227, 169, 0, 1), none, none, some (.ifCond .eq 11, 16, 0, 0), none, none, some (.aload_n 0, 0, 0, 0), some (.iload_n 2, 0, 0, 0), some (.invokevirtual 232, 171, 0, 1), none, none, some (.ifCond .ne 5, 18, 0, 0)],
   [some (.iconst (-1), 0, 0, 0), some (.ireturn, 0, 0, 0), some (.aload_n 0, 0, 0, 0), some (.invokevirtual 235, 172, 0, 0), none, none, some (.aload_n 0, 0, 0, 0), some (.iload_n 2, 0, 0, 0), some (.invokevirtual 201, 173, 0, 1), none, none, some (.istore_n 3, 0, 0, 0), some (.aload_n 0, 0, 0, 0), some (.iload_n 2, 0, 0, 0), some (.invokevirtual 207, 177, 0, 1)],
   [none, some (.ifCond .eq 25, 58, 0, 0), none, none, some (.iload_n 3, 0, 0, 0), some (.bipush (-4), 0, 0, 0), none, some (.if_icmp .eq 8, 47, 0, 0), none, none, some (.iload_n 3, 0, 0, 0), some (.iload_n 1, 0, 0, 0), some (.if_icmp .ne 14, 58, 0, 0), none, none, some (.aload_n 0, 0, 0, 0)],
   [some (.iconst 0, 0, 0, 0), some (.iload_n 1, 0, 0, 0), some (.iadd, 0, 0, 0), some (.iload_n 2, 0, 0, 0), some (.invokevirtual 238, 175, 0, 2), none, none, some (.goto 4, 59, 0, 0), none, none, some (.iconst (-1), 0, 0, 0), some (.ireturn, 0, 0, 0)]])
def m_177 : pm_M := (⟨"MoodTownModel", "isOpen", "(I)Z"⟩, prog_9_method_34_code, 2, (some .boolean), 7, 2, 0, 0, 0, 0,
  [[some (.iload_n 1, 0, 0, 0), some (.bipush (-4), 0, 0, 0), none, some (.if_icmp .eq 21, 24, 0, 0), none, none, some (.aload_n 0, 0, 0, 0), some (.getfield 7, 7, 0, 0), none, none, some (.bipush 20, 0, 0, 0), none, some (.iaload, 0, 0, 0), some (.iload_n 1, 0, 0, 0), some (.ishr, 0, 0, 0), some (.iconst 1, 0, 0, 0)],
   [some (.iand, 0, 0, 0), some (.ifCond .ne 7, 24, 0, 0), none, none, some (.iconst 1, 0, 0, 0), some (.goto 4, 25, 0, 0), none, none, some (.iconst 0, 0, 0, 0), some (.ireturn, 0, 0, 0)]])
def m_178 : pm_M := (⟨"MoodTownModel", "hold", "(IZ)I"⟩, prog_9_method_47_code, 3, (some .int), 7, 3, 2, 46, 0, 0,
  [[some (.aload_n 0, 0, 0, 0), some (.iload_n 1, 0, 0, 0), some (.invokevirtual 227, 169, 0, 1), none, none, some (.ifCond .eq 18, 23, 0, 0), none, none, some (.aload_n 0, 0, 0, 0), some (.bipush 10, 0, 0, 0), none, some (.iload_n 1, 0, 0, 0), some (.iadd, 0, 0, 0), some (.iload_n 2, 0, 0, 0), some (.invokestatic 163, 164, 2, 1)],
   [none, some (.invokevirtual 238, 175, 0, 2), none, none, some (.goto 4, 24, 0, 0), none, none, some (.iconst (-1), 0, 0, 0), some (.ireturn, 0, 0, 0)]])
def m_179 : pm_M := (⟨"MoodTownModel", "goal", "(II)I"⟩, prog_9_method_48_code, 3, (some .int), 7, 3, 2, 46, 0, 0,
  [[some (.aload_n 0, 0, 0, 0), some (.iload_n 1, 0, 0, 0), some (.invokevirtual 227, 169, 0, 1), none, none, some (.ifCond .eq 29, 34, 0, 0), none, none, some (.iload_n 2, 0, 0, 0), some (.bipush (-4), 0, 0, 0), none, some (.if_icmp .eq 11, 22, 0, 0), none, none, some (.aload_n 0, 0, 0, 0), some (.iload_n 2, 0, 0, 0)],
   [some (.invokevirtual 232, 171, 0, 1), none, none, some (.ifCond .eq 15, 34, 0, 0), none, none, some (.aload_n 0, 0, 0, 0), some (.bipush 15, 0, 0, 0), none, some (.iload_n 1, 0, 0, 0), some (.iadd, 0, 0, 0), some (.iload_n 2, 0, 0, 0), some (.invokevirtual 238, 175, 0, 2), none, none, some (.goto 4, 35, 0, 0)],
   [none, none, some (.iconst (-1), 0, 0, 0), some (.ireturn, 0, 0, 0)]])
def m_180 : pm_M := (⟨"MoodTownModel", "wall", "(IZ)I"⟩, prog_9_method_49_code, 4, (some .int), 7, 3, 2, 46, 0, 0,
  [[some (.aload_n 0, 0, 0, 0), some (.iload_n 1, 0, 0, 0), some (.invokevirtual 232, 171, 0, 1), none, none, some (.ifCond .ne 5, 10, 0, 0), none, none, some (.iconst (-1), 0, 0, 0), some (.ireturn, 0, 0, 0), some (.aload_n 0, 0, 0, 0), some (.invokevirtual 235, 172, 0, 0), none, none, some (.aload_n 0, 0, 0, 0), some (.iload_n 1, 0, 0, 0)],
   [some (.invokevirtual 201, 173, 0, 1), none, none, some (.bipush (-4), 0, 0, 0), none, some (.if_icmp .eq 5, 26, 0, 0), none, none, some (.iconst (-1), 0, 0, 0), some (.ireturn, 0, 0, 0), some (.aload_n 0, 0, 0, 0), some (.getfield 7, 7, 0, 0), none, none, some (.bipush 20, 0, 0, 0)],
   [some (.iaload, 0, 0, 0), some (.iload_n 1, 0, 0, 0), some (.ishr, 0, 0, 0), some (.iconst 1, 0, 0, 0), some (.iand, 0, 0, 0), some (.istore_n 3, 0, 0, 0), some (.aload_n 0, 0, 0, 0), some (.getfield 7, 7, 0, 0), none, none, some (.bipush 20, 0, 0, 0), none, some (.iload_n 2, 0, 0, 0), some (.ifCond .eq 17, 62, 0, 0)],
   [some (.aload_n 0, 0, 0, 0), some (.getfield 7, 7, 0, 0), none, none, some (.bipush 20, 0, 0, 0), none, some (.iaload, 0, 0, 0), some (.iconst 1, 0, 0, 0), some (.iload_n 1, 0, 0, 0), some (.ishl, 0, 0, 0), some (.ior, 0, 0, 0), some (.goto 16, 75, 0, 0), none, none, some (.aload_n 0, 0, 0, 0), some (.getfield 7, 7, 0, 0)],
   [none, none, some (.bipush 20, 0, 0, 0), none, some (.iaload, 0, 0, 0), some (.iconst 1, 0, 0, 0), some (.iload_n 1, 0, 0, 0), some (.ishl, 0, 0, 0), some (.iconst (-1), 0, 0, 0), some (.ixor, 0, 0, 0), some (.iand, 0, 0, 0), some (.iastore, 0, 0, 0), some (.iload_n 3, 0, 0, 0), some (.ireturn, 0, 0, 0)]])
def m_181 : pm_M := (⟨"MoodTownModel", "pull", "(II)I"⟩, prog_9_method_50_code, 3, (some .int), 7, 3, 1, 25, 0, 0,
  [[some (.iload_n 1, 0, 0, 0), some (.i2l, 0, 0, 0), some (.lconst 1, 0, 0, 0), some (.ldc2_w 189, 0, 0, 4), none, none, some (.invokestatic 98, 149, 2, 3), none, none, some (.ifCond .eq 29, 38, 0, 0), none, none, some (.iload_n 2, 0, 0, 0), some (.i2l, 0, 0, 0), some (.lconst 0, 0, 0, 0), some (.ldc2_w 241, 0, 0, 9)],
   [none, none, some (.invokestatic 98, 149, 2, 3), none, none, some (.ifCond .eq 17, 38, 0, 0), none, none, some (.aload_n 0, 0, 0, 0), some (.bipush 21, 0, 0, 0), none, some (.iload_n 1, 0, 0, 0), some (.iadd, 0, 0, 0), some (.iconst 1, 0, 0, 0), some (.isub, 0, 0, 0), some (.iload_n 2, 0, 0, 0)],
   [some (.invokevirtual 238, 175, 0, 2), none, none, some (.goto 4, 39, 0, 0), none, none, some (.iconst (-1), 0, 0, 0), some (.ireturn, 0, 0, 0)]])
def m_182 : pm_M := (⟨"MoodTownModel", "press", "(I)I"⟩, prog_9_method_51_code, 2, (some .int), 7, 2, 1, 25, 0, 0,
  [[some (.iload_n 1, 0, 0, 0), some (.i2l, 0, 0, 0), some (.lconst 0, 0, 0, 0), some (.ldc2_w 189, 0, 0, 4), none, none, some (.invokestatic 98, 149, 2, 3), none, none, some (.ifCond .eq 13, 22, 0, 0), none, none, some (.aload_n 0, 0, 0, 0), some (.bipush 25, 0, 0, 0), none, some (.iload_n 1, 0, 0, 0)],
   [some (.invokevirtual 238, 175, 0, 2), none, none, some (.goto 4, 23, 0, 0), none, none, some (.iconst (-1), 0, 0, 0), some (.ireturn, 0, 0, 0)]])
def m_183 : pm_M := (⟨"MoodTownModel", "force", "(II)I"⟩, prog_9_method_52_code, 3, (some .int), 7, 3, 3, 68, 0, 0,
  [[some (.aload_n 0, 0, 0, 0), some (.iload_n 1, 0, 0, 0), some (.invokevirtual 227, 169, 0, 1), none, none, some (.ifCond .eq 13, 18, 0, 0), none, none, some (.iload_n 2, 0, 0, 0), some (.i2l, 0, 0, 0), some (.lconst 0, 0, 0, 0), some (.lconst 1, 0, 0, 0), some (.invokestatic 98, 149, 2, 3), none, none, some (.ifCond .ne 5, 20, 0, 0)],
   [none, none, some (.iconst (-1), 0, 0, 0), some (.ireturn, 0, 0, 0), some (.aload_n 0, 0, 0, 0), some (.invokevirtual 235, 172, 0, 0), none, none, some (.bipush 100, 0, 0, 0), none, some (.aload_n 0, 0, 0, 0), some (.iload_n 1, 0, 0, 0), some (.iload_n 2, 0, 0, 0), some (.iconst 1, 0, 0, 0), some (.if_icmp .ne 7, 37, 0, 0)],
   [none, some (.iconst 1, 0, 0, 0), some (.goto 4, 38, 0, 0), none, none, some (.iconst 0, 0, 0, 0), some (.invokevirtual 194, 184, 0, 2), none, none, some (.iadd, 0, 0, 0), some (.ireturn, 0, 0, 0)]])
def m_184 : pm_M := (⟨"MoodTownModel", "forceOn", "(IZ)I"⟩, prog_9_method_30_code, 7, (some .int), 7, 3, 2, 42, 0, 0,
  [[some (.iconst 0, 0, 0, 0), some (.istore_n 3, 0, 0, 0), some (.iconst 0, 0, 0, 0), some (.istore 4, 0, 0, 0), none, some (.iload 4, 0, 0, 0), none, some (.aload_n 0, 0, 0, 0), some (.getfield 180, 7, 27, 0), none, none, some (.if_icmp .ge 163, 174, 0, 0), none, none, some (.iload 4, 0, 0, 0)],
   [some (.iload_n 1, 0, 0, 0), some (.if_icmp .eq 22, 39, 0, 0), none, none, some (.aload_n 0, 0, 0, 0), some (.getfield 26, 7, 21, 0), none, none, some (.iload_n 1, 0, 0, 0), some (.iaload, 0, 0, 0), some (.ifCond .eq 13, 39, 0, 0), none, none, some (.aload_n 0, 0, 0, 0), some (.getfield 26, 7, 21, 0)],
   [none, some (.iload 4, 0, 0, 0), none, some (.iaload, 0, 0, 0), some (.ifCond .ne 7, 43, 0, 0), none, none, some (.iconst 0, 0, 0, 0), some (.goto 10, 50, 0, 0), none, none, some (.aload_n 0, 0, 0, 0), some (.iload_n 1, 0, 0, 0), some (.iload 4, 0, 0, 0), none, some (.invokevirtual 186, 185, 0, 2)],
   [none, none, some (.istore 5, 0, 0, 0), none, some (.iload 5, 0, 0, 0), none, some (.i2l, 0, 0, 0), some (.lconst 1, 0, 0, 0), some (.ldc2_w 189, 0, 0, 4), none, none, some (.invokestatic 98, 149, 2, 3), none, none, some (.ifCond .eq 106, 168, 0, 0)],
   [none, some (.iload_n 2, 0, 0, 0), some (.ifCond .eq 33, 99, 0, 0), none, none, some (.aload_n 0, 0, 0, 0), some (.getfield 23, 7, 20, 0), none, none, some (.iload 4, 0, 0, 0), none, some (.iaload, 0, 0, 0), some (.aload_n 0, 0, 0, 0), some (.getfield 87, 7, 2, 0)],
   [some (.idiv, 0, 0, 0), some (.aload_n 0, 0, 0, 0), some (.getfield 23, 7, 20, 0), none, none, some (.iload_n 1, 0, 0, 0), some (.iaload, 0, 0, 0), some (.aload_n 0, 0, 0, 0), some (.getfield 87, 7, 2, 0), none, none, some (.idiv, 0, 0, 0), some (.isub, 0, 0, 0), some (.invokestatic 191, 187, 2, 1)],
   [some (.goto 30, 126, 0, 0), none, none, some (.aload_n 0, 0, 0, 0), some (.getfield 23, 7, 20, 0), none, none, some (.iload 4, 0, 0, 0), none, some (.iaload, 0, 0, 0), some (.aload_n 0, 0, 0, 0), some (.getfield 87, 7, 2, 0), none, none, some (.irem, 0, 0, 0), some (.aload_n 0, 0, 0, 0)],
   [some (.getfield 23, 7, 20, 0), none, none, some (.iload_n 1, 0, 0, 0), some (.iaload, 0, 0, 0), some (.aload_n 0, 0, 0, 0), some (.getfield 87, 7, 2, 0), none, none, some (.irem, 0, 0, 0), some (.isub, 0, 0, 0), some (.invokestatic 191, 187, 2, 1), none, none, some (.istore 6, 0, 0, 0)],
   [some (.iload_n 3, 0, 0, 0), some (.aload_n 0, 0, 0, 0), some (.getfield 7, 7, 0, 0), none, none, some (.bipush 21, 0, 0, 0), none, some (.iload 5, 0, 0, 0), none, some (.iadd, 0, 0, 0), some (.iconst 1, 0, 0, 0), some (.isub, 0, 0, 0), some (.iaload, 0, 0, 0), some (.aload_n 0, 0, 0, 0), some (.getfield 26, 7, 21, 0)],
   [none, some (.iload 4, 0, 0, 0), none, some (.iaload, 0, 0, 0), some (.aload_n 0, 0, 0, 0), some (.getfield 26, 7, 21, 0), none, none, some (.iload_n 1, 0, 0, 0), some (.iaload, 0, 0, 0), some (.if_icmp .ne 9, 163, 0, 0), none, none, some (.iload 6, 0, 0, 0), none, some (.ineg, 0, 0, 0)],
   [some (.goto 5, 165, 0, 0), none, none, some (.iload 6, 0, 0, 0), none, some (.imul, 0, 0, 0), some (.iadd, 0, 0, 0), some (.istore_n 3, 0, 0, 0), some (.iinc 4 1, 0, 0, 0), none, none, some (.goto (-166), 5, 0, 0), none, none, some (.iload_n 3, 0, 0, 0), some (.ireturn, 0, 0, 0)]])
def m_185 : pm_M := (⟨"MoodTownModel", "apart", "(II)I"⟩, prog_9_method_29_code, 3, (some .int), 7, 3, 1, 20, 0, 0,
  [[some (.aload_n 0, 0, 0, 0), some (.getfield 23, 7, 20, 0), none, none, some (.iload_n 1, 0, 0, 0), some (.iaload, 0, 0, 0), some (.aload_n 0, 0, 0, 0), some (.getfield 87, 7, 2, 0), none, none, some (.irem, 0, 0, 0), some (.aload_n 0, 0, 0, 0), some (.getfield 23, 7, 20, 0), none, none, some (.iload_n 2, 0, 0, 0)],
   [some (.iaload, 0, 0, 0), some (.aload_n 0, 0, 0, 0), some (.getfield 87, 7, 2, 0), none, none, some (.irem, 0, 0, 0), some (.isub, 0, 0, 0), some (.invokestatic 183, 186, 2, 1), none, none, some (.aload_n 0, 0, 0, 0), some (.getfield 23, 7, 20, 0), none, none, some (.iload_n 1, 0, 0, 0), some (.iaload, 0, 0, 0)],
   [some (.aload_n 0, 0, 0, 0), some (.getfield 87, 7, 2, 0), none, none, some (.idiv, 0, 0, 0), some (.aload_n 0, 0, 0, 0), some (.getfield 23, 7, 20, 0), none, none, some (.iload_n 2, 0, 0, 0), some (.iaload, 0, 0, 0), some (.aload_n 0, 0, 0, 0), some (.getfield 87, 7, 2, 0), none, none, some (.idiv, 0, 0, 0)],
   [some (.isub, 0, 0, 0), some (.invokestatic 183, 186, 2, 1), none, none, some (.iadd, 0, 0, 0), some (.ireturn, 0, 0, 0)]])
def m_186 : pm_M := (⟨"MoodTownModel", "abs", "(I)I"⟩, prog_9_method_27_code, 1, (some .int), 7, 1, 0, 0, 0, 0,
  [[some (.iload_n 0, 0, 0, 0), some (.ifCond .ge 8, 9, 0, 0), none, none, some (.iload_n 0, 0, 0, 0), some (.ineg, 0, 0, 0), some (.goto 4, 10, 0, 0), none, none, some (.iload_n 0, 0, 0, 0), some (.ireturn, 0, 0, 0)]])
def m_187 : pm_M := (⟨"MoodTownModel", "sign", "(I)I"⟩, prog_9_method_28_code, 1, (some .int), 7, 1, 0, 0, 0, 0,
  [[some (.iload_n 0, 0, 0, 0), some (.ifCond .le 7, 8, 0, 0), none, none, some (.iconst 1, 0, 0, 0), some (.goto 12, 17, 0, 0), none, none, some (.iload_n 0, 0, 0, 0), some (.ifCond .ge 7, 16, 0, 0), none, none, some (.iconst (-1), 0, 0, 0), some (.goto 4, 17, 0, 0)],
   [some (.iconst 0, 0, 0, 0), some (.ireturn, 0, 0, 0)]])
def m_188 : pm_M := (⟨"MoodTownModel", "wish", "(I)I"⟩, prog_9_method_53_code, 2, (some .int), 7, 2, 4, 91, 0, 0,
  [[some (.aload_n 0, 0, 0, 0), some (.iload_n 1, 0, 0, 0), some (.invokevirtual 227, 169, 0, 1), none, none, some (.ifCond .ne 5, 10, 0, 0), none, none, some (.iconst (-1), 0, 0, 0), some (.ireturn, 0, 0, 0), some (.aload_n 0, 0, 0, 0), some (.invokevirtual 235, 172, 0, 0), none, none, some (.aload_n 0, 0, 0, 0), some (.iload_n 1, 0, 0, 0)],
   [some (.invokevirtual 204, 189, 0, 1), none, none, some (.ireturn, 0, 0, 0)]])
def m_189 : pm_M := (⟨"MoodTownModel", "wishOf", "(I)I"⟩, prog_9_method_31_code, 4, (some .int), 7, 2, 3, 68, 0, 0,
  [[some (.aload_n 0, 0, 0, 0), some (.getfield 29, 7, 22, 0), none, none, some (.iload_n 1, 0, 0, 0), some (.iaload, 0, 0, 0), some (.iconst 1, 0, 0, 0), some (.if_icmp .ne 7, 14, 0, 0), none, none, some (.iconst 0, 0, 0, 0), some (.goto 9, 20, 0, 0), none, none, some (.aload_n 0, 0, 0, 0), some (.iload_n 1, 0, 0, 0)],
   [some (.iconst 0, 0, 0, 0), some (.invokevirtual 194, 184, 0, 2), none, none, some (.istore_n 2, 0, 0, 0), some (.aload_n 0, 0, 0, 0), some (.getfield 29, 7, 22, 0), none, none, some (.iload_n 1, 0, 0, 0), some (.iaload, 0, 0, 0), some (.iconst 1, 0, 0, 0), some (.if_icmp .ne 7, 35, 0, 0), none, none, some (.iconst 0, 0, 0, 0)],
   [some (.goto 9, 41, 0, 0), none, none, some (.aload_n 0, 0, 0, 0), some (.iload_n 1, 0, 0, 0), some (.iconst 1, 0, 0, 0), some (.invokevirtual 194, 184, 0, 2), none, none, some (.istore_n 3, 0, 0, 0), some (.iload_n 2, 0, 0, 0), some (.ifCond .eq 24, 67, 0, 0), none, none, some (.iload_n 2, 0, 0, 0), some (.invokestatic 183, 186, 2, 1)],
   [none, none, some (.iload_n 3, 0, 0, 0), some (.invokestatic 183, 186, 2, 1), none, none, some (.if_icmp .lt 13, 67, 0, 0), none, none, some (.iload_n 2, 0, 0, 0), some (.ifCond .le 7, 65, 0, 0), none, none, some (.iconst 1, 0, 0, 0), some (.goto 4, 66, 0, 0)],
   [none, some (.iconst 3, 0, 0, 0), some (.ireturn, 0, 0, 0), some (.iload_n 3, 0, 0, 0), some (.ifCond .le 7, 75, 0, 0), none, none, some (.iconst 2, 0, 0, 0), some (.goto 12, 84, 0, 0), none, none, some (.iload_n 3, 0, 0, 0), some (.ifCond .ge 7, 83, 0, 0), none, none, some (.iconst 0, 0, 0, 0)],
   [some (.goto 4, 84, 0, 0), none, none, some (.iconst 4, 0, 0, 0), some (.ireturn, 0, 0, 0)]])
def m_190 : pm_M := (⟨"MoodTownModel", "stuck", "()I"⟩, prog_9_method_54_code, 3, (some .int), 7, 1, 5, 115, 0, 0,
  [[some (.aload_n 0, 0, 0, 0), some (.invokevirtual 235, 172, 0, 0), none, none, some (.aload_n 0, 0, 0, 0), some (.invokevirtual 217, 191, 0, 0), none, none, some (.pop, 0, 0, 0), some (.iconst 0, 0, 0, 0), some (.istore_n 1, 0, 0, 0), some (.iconst 0, 0, 0, 0), some (.istore_n 2, 0, 0, 0), some (.iload_n 2, 0, 0, 0), some (.aload_n 0, 0, 0, 0), some (.getfield 180, 7, 27, 0)],
   [none, none, some (.if_icmp .ge 42, 60, 0, 0), none, none, some (.iload_n 1, 0, 0, 0), some (.aload_n 0, 0, 0, 0), some (.getfield 35, 7, 24, 0), none, none, some (.iload_n 2, 0, 0, 0), some (.iaload, 0, 0, 0), some (.iconst 4, 0, 0, 0), some (.if_icmp .eq 17, 46, 0, 0)],
   [some (.aload_n 0, 0, 0, 0), some (.getfield 38, 7, 25, 0), none, none, some (.iload_n 2, 0, 0, 0), some (.iaload, 0, 0, 0), some (.iconst 4, 0, 0, 0), some (.if_icmp .ne 7, 46, 0, 0), none, none, some (.iconst 1, 0, 0, 0), some (.goto 4, 47, 0, 0), none, none, some (.iconst 0, 0, 0, 0), some (.invokestatic 163, 164, 2, 1)],
   [none, none, some (.iload_n 2, 0, 0, 0), some (.ishl, 0, 0, 0), some (.ior, 0, 0, 0), some (.istore_n 1, 0, 0, 0), some (.iinc 2 1, 0, 0, 0), none, none, some (.goto (-44), 13, 0, 0), none, none, some (.iload_n 1, 0, 0, 0), some (.ireturn, 0, 0, 0)]])
def m_191 : pm_M := (⟨"MoodTownModel", "steps", "()Z"⟩, prog_9_method_37_code, 5, (some .boolean), 7, 1, 4, 91, 0, 0,
  [[some (.iconst 0, 0, 0, 0), some (.istore_n 1, 0, 0, 0), some (.iconst 0, 0, 0, 0), some (.istore_n 2, 0, 0, 0), some (.iload_n 2, 0, 0, 0), some (.aload_n 0, 0, 0, 0), some (.getfield 180, 7, 27, 0), none, none, some (.if_icmp .ge 20, 29, 0, 0), none, none, some (.aload_n 0, 0, 0, 0), some (.getfield 35, 7, 24, 0)],
   [some (.iload_n 2, 0, 0, 0), some (.aload_n 0, 0, 0, 0), some (.iload_n 2, 0, 0, 0), some (.invokevirtual 204, 189, 0, 1), none, none, some (.iastore, 0, 0, 0), some (.iinc 2 1, 0, 0, 0), none, none, some (.goto (-22), 4, 0, 0), none, none, some (.iconst 0, 0, 0, 0), some (.istore_n 2, 0, 0, 0), some (.iload_n 2, 0, 0, 0)],
   [some (.aload_n 0, 0, 0, 0), some (.getfield 180, 7, 27, 0), none, none, some (.if_icmp .ge 108, 144, 0, 0), none, none, some (.aload_n 0, 0, 0, 0), some (.aload_n 0, 0, 0, 0), some (.getfield 23, 7, 20, 0), none, none, some (.iload_n 2, 0, 0, 0), some (.iaload, 0, 0, 0), some (.aload_n 0, 0, 0, 0), some (.getfield 35, 7, 24, 0)],
   [none, none, some (.iload_n 2, 0, 0, 0), some (.iaload, 0, 0, 0), some (.invokevirtual 198, 192, 0, 2), none, none, some (.istore_n 3, 0, 0, 0), some (.aload_n 0, 0, 0, 0), some (.iload_n 3, 0, 0, 0), some (.invokevirtual 207, 177, 0, 1), none, none, some (.ifCond .eq 17, 78, 0, 0)],
   [some (.aload_n 0, 0, 0, 0), some (.iload_n 3, 0, 0, 0), some (.invokevirtual 201, 173, 0, 1), none, none, some (.bipush (-4), 0, 0, 0), none, some (.if_icmp .ne 7, 78, 0, 0), none, none, some (.iconst 1, 0, 0, 0), some (.goto 4, 79, 0, 0), none, none, some (.iconst 0, 0, 0, 0), some (.istore 4, 0, 0, 0)],
   [none, some (.aload_n 0, 0, 0, 0), some (.getfield 23, 7, 20, 0), none, none, some (.iload_n 2, 0, 0, 0), some (.iload 4, 0, 0, 0), none, some (.ifCond .eq 7, 95, 0, 0), none, none, some (.iload_n 3, 0, 0, 0), some (.goto 9, 101, 0, 0), none, none, some (.aload_n 0, 0, 0, 0)],
   [some (.getfield 23, 7, 20, 0), none, none, some (.iload_n 2, 0, 0, 0), some (.iaload, 0, 0, 0), some (.iastore, 0, 0, 0), some (.aload_n 0, 0, 0, 0), some (.getfield 38, 7, 25, 0), none, none, some (.iload_n 2, 0, 0, 0), some (.iload 4, 0, 0, 0), none, some (.ifCond .eq 12, 121, 0, 0)],
   [some (.aload_n 0, 0, 0, 0), some (.getfield 35, 7, 24, 0), none, none, some (.iload_n 2, 0, 0, 0), some (.iaload, 0, 0, 0), some (.goto 4, 122, 0, 0), none, none, some (.iconst 4, 0, 0, 0), some (.iastore, 0, 0, 0), some (.iload_n 1, 0, 0, 0), some (.ifCond .ne 8, 132, 0, 0), none, none, some (.iload 4, 0, 0, 0)],
   [none, some (.ifCond .eq 7, 136, 0, 0), none, none, some (.iconst 1, 0, 0, 0), some (.goto 4, 137, 0, 0), none, none, some (.iconst 0, 0, 0, 0), some (.istore_n 1, 0, 0, 0), some (.iinc 2 1, 0, 0, 0), none, none, some (.goto (-110), 31, 0, 0)],
   [some (.iconst 0, 0, 0, 0), some (.istore_n 2, 0, 0, 0), some (.iload_n 2, 0, 0, 0), some (.aload_n 0, 0, 0, 0), some (.getfield 180, 7, 27, 0), none, none, some (.if_icmp .ge 23, 174, 0, 0), none, none, some (.aload_n 0, 0, 0, 0), some (.getfield 41, 7, 26, 0), none, none, some (.iload_n 2, 0, 0, 0), some (.aload_n 0, 0, 0, 0)],
   [some (.iload_n 2, 0, 0, 0), some (.invokevirtual 211, 193, 0, 1), none, none, some (.invokestatic 163, 164, 2, 1), none, none, some (.iastore, 0, 0, 0), some (.iinc 2 1, 0, 0, 0), none, none, some (.goto (-25), 146, 0, 0), none, none, some (.iconst 0, 0, 0, 0), some (.istore_n 2, 0, 0, 0)],
   [some (.iload_n 2, 0, 0, 0), some (.aload_n 0, 0, 0, 0), some (.getfield 180, 7, 27, 0), none, none, some (.if_icmp .ge 63, 244, 0, 0), none, none, some (.iload_n 1, 0, 0, 0), some (.ifCond .ne 13, 198, 0, 0), none, none, some (.aload_n 0, 0, 0, 0), some (.getfield 41, 7, 26, 0)],
   [some (.iload_n 2, 0, 0, 0), some (.iaload, 0, 0, 0), some (.iconst 1, 0, 0, 0), some (.if_icmp .ne 7, 202, 0, 0), none, none, some (.iconst 1, 0, 0, 0), some (.goto 4, 203, 0, 0), none, none, some (.iconst 0, 0, 0, 0), some (.istore_n 1, 0, 0, 0), some (.aload_n 0, 0, 0, 0), some (.getfield 26, 7, 21, 0)],
   [some (.iload_n 2, 0, 0, 0), some (.aload_n 0, 0, 0, 0), some (.getfield 41, 7, 26, 0), none, none, some (.iload_n 2, 0, 0, 0), some (.iaload, 0, 0, 0), some (.iconst 1, 0, 0, 0), some (.if_icmp .ne 15, 231, 0, 0), none, none, some (.aload_n 0, 0, 0, 0), some (.getfield 26, 7, 21, 0), none, none, some (.iload_n 2, 0, 0, 0)],
   [some (.iaload, 0, 0, 0), some (.invokestatic 214, 194, 2, 1), none, none, some (.goto 9, 237, 0, 0), none, none, some (.aload_n 0, 0, 0, 0), some (.getfield 26, 7, 21, 0), none, none, some (.iload_n 2, 0, 0, 0), some (.iaload, 0, 0, 0), some (.iastore, 0, 0, 0), some (.iinc 2 1, 0, 0, 0)],
   [none, some (.goto (-65), 176, 0, 0), none, none, some (.iload_n 1, 0, 0, 0), some (.ireturn, 0, 0, 0)]])
def m_192 : pm_M := (⟨"MoodTownModel", "beside", "(II)I"⟩, prog_9_method_32_code, 3, (some .int), 7, 3, 0, 0, 0, 0,
  [[some (.iload_n 2, 0, 0, 0), some (.tableswitch 123 0 3 #[31, 51, 75, 105], 0, 0, 0)],
   [],
   [some (.iload_n 1, 0, 0, 0), some (.aload_n 0, 0, 0, 0), some (.getfield 87, 7, 2, 0), none, none, some (.if_icmp .lt 12, 49, 0, 0), none, none, some (.iload_n 1, 0, 0, 0), some (.aload_n 0, 0, 0, 0), some (.getfield 87, 7, 2, 0), none, none, some (.isub, 0, 0, 0), some (.goto 5, 51, 0, 0)],
   [none, some (.bipush (-4), 0, 0, 0), none, some (.ireturn, 0, 0, 0), some (.iload_n 1, 0, 0, 0), some (.aload_n 0, 0, 0, 0), some (.getfield 87, 7, 2, 0), none, none, some (.irem, 0, 0, 0), some (.iconst 1, 0, 0, 0), some (.iadd, 0, 0, 0), some (.aload_n 0, 0, 0, 0), some (.getfield 87, 7, 2, 0)],
   [some (.if_icmp .ge 9, 73, 0, 0), none, none, some (.iload_n 1, 0, 0, 0), some (.iconst 1, 0, 0, 0), some (.iadd, 0, 0, 0), some (.goto 5, 75, 0, 0), none, none, some (.bipush (-4), 0, 0, 0), none, some (.ireturn, 0, 0, 0), some (.iload_n 1, 0, 0, 0), some (.aload_n 0, 0, 0, 0), some (.getfield 87, 7, 2, 0)],
   [none, some (.iadd, 0, 0, 0), some (.aload_n 0, 0, 0, 0), some (.getfield 87, 7, 2, 0), none, none, some (.aload_n 0, 0, 0, 0), some (.getfield 90, 7, 3, 0), none, none, some (.imul, 0, 0, 0), some (.if_icmp .ge 12, 103, 0, 0), none, none, some (.iload_n 1, 0, 0, 0), some (.aload_n 0, 0, 0, 0)],
   [some (.getfield 87, 7, 2, 0), none, none, some (.iadd, 0, 0, 0), some (.goto 5, 105, 0, 0), none, none, some (.bipush (-4), 0, 0, 0), none, some (.ireturn, 0, 0, 0), some (.iload_n 1, 0, 0, 0), some (.aload_n 0, 0, 0, 0), some (.getfield 87, 7, 2, 0), none, none, some (.irem, 0, 0, 0)],
   [some (.ifCond .le 9, 121, 0, 0), none, none, some (.iload_n 1, 0, 0, 0), some (.iconst 1, 0, 0, 0), some (.isub, 0, 0, 0), some (.goto 5, 123, 0, 0), none, none, some (.bipush (-4), 0, 0, 0), none, some (.ireturn, 0, 0, 0), some (.bipush (-4), 0, 0, 0), none, some (.ireturn, 0, 0, 0)]])
def m_193 : pm_M := (⟨"MoodTownModel", "isPressed", "(I)Z"⟩, prog_9_method_35_code, 5, (some .boolean), 7, 2, 1, 23, 0, 0,
  [[some (.iconst 0, 0, 0, 0), some (.istore_n 2, 0, 0, 0), some (.iconst 0, 0, 0, 0), some (.istore_n 3, 0, 0, 0), some (.iload_n 3, 0, 0, 0), some (.iconst 4, 0, 0, 0), some (.if_icmp .ge 51, 57, 0, 0), none, none, some (.aload_n 0, 0, 0, 0), some (.aload_n 0, 0, 0, 0), some (.getfield 23, 7, 20, 0), none, none, some (.iload_n 1, 0, 0, 0), some (.iaload, 0, 0, 0)],
   [some (.iload_n 3, 0, 0, 0), some (.invokevirtual 198, 192, 0, 2), none, none, some (.istore 4, 0, 0, 0), none, some (.iload_n 2, 0, 0, 0), some (.iload 4, 0, 0, 0), none, some (.bipush (-4), 0, 0, 0), none, some (.if_icmp .eq 18, 45, 0, 0), none, none, some (.aload_n 0, 0, 0, 0), some (.iload 4, 0, 0, 0)],
   [none, some (.invokevirtual 201, 173, 0, 1), none, none, some (.bipush (-4), 0, 0, 0), none, some (.if_icmp .eq 7, 45, 0, 0), none, none, some (.iconst 1, 0, 0, 0), some (.goto 4, 46, 0, 0), none, none, some (.iconst 0, 0, 0, 0), some (.invokestatic 163, 164, 2, 1)],
   [none, some (.iadd, 0, 0, 0), some (.istore_n 2, 0, 0, 0), some (.iinc 3 1, 0, 0, 0), none, none, some (.goto (-50), 4, 0, 0), none, none, some (.aload_n 0, 0, 0, 0), some (.getfield 26, 7, 21, 0), none, none, some (.iload_n 1, 0, 0, 0), some (.iaload, 0, 0, 0), some (.ifCond .le 28, 91, 0, 0)],
   [none, none, some (.aload_n 0, 0, 0, 0), some (.getfield 7, 7, 0, 0), none, none, some (.bipush 25, 0, 0, 0), none, some (.iaload, 0, 0, 0), some (.ifCond .le 18, 91, 0, 0), none, none, some (.iload_n 2, 0, 0, 0), some (.aload_n 0, 0, 0, 0), some (.getfield 7, 7, 0, 0)],
   [none, some (.bipush 25, 0, 0, 0), none, some (.iaload, 0, 0, 0), some (.if_icmp .lt 7, 91, 0, 0), none, none, some (.iconst 1, 0, 0, 0), some (.goto 4, 92, 0, 0), none, none, some (.iconst 0, 0, 0, 0), some (.ireturn, 0, 0, 0)]])
def m_194 : pm_M := (⟨"MoodTownModel", "flipped", "(I)I"⟩, prog_9_method_36_code, 1, (some .int), 7, 1, 0, 0, 0, 0,
  [[some (.iload_n 0, 0, 0, 0), some (.ifCond .ne 7, 8, 0, 0), none, none, some (.iconst 0, 0, 0, 0), some (.goto 8, 13, 0, 0), none, none, some (.iload_n 0, 0, 0, 0), some (.iconst 3, 0, 0, 0), some (.irem, 0, 0, 0), some (.iconst 1, 0, 0, 0), some (.iadd, 0, 0, 0), some (.ireturn, 0, 0, 0)]])
def m_195 : pm_M := (⟨"MoodTownModel", "strain", "()I"⟩, prog_9_method_55_code, 3, (some .int), 7, 1, 3, 68, 0, 0,
  [[some (.aload_n 0, 0, 0, 0), some (.invokevirtual 235, 172, 0, 0), none, none, some (.iconst 0, 0, 0, 0), some (.istore_n 1, 0, 0, 0), some (.iconst 0, 0, 0, 0), some (.istore_n 2, 0, 0, 0), some (.iload_n 2, 0, 0, 0), some (.aload_n 0, 0, 0, 0), some (.getfield 180, 7, 27, 0), none, none, some (.if_icmp .ge 31, 44, 0, 0)],
   [some (.iload_n 1, 0, 0, 0), some (.aload_n 0, 0, 0, 0), some (.iload_n 2, 0, 0, 0), some (.iconst 0, 0, 0, 0), some (.invokevirtual 194, 184, 0, 2), none, none, some (.invokestatic 183, 186, 2, 1), none, none, some (.aload_n 0, 0, 0, 0), some (.iload_n 2, 0, 0, 0), some (.iconst 1, 0, 0, 0), some (.invokevirtual 194, 184, 0, 2)],
   [some (.invokestatic 183, 186, 2, 1), none, none, some (.iadd, 0, 0, 0), some (.iadd, 0, 0, 0), some (.istore_n 1, 0, 0, 0), some (.iinc 2 1, 0, 0, 0), none, none, some (.goto (-33), 8, 0, 0), none, none, some (.iload_n 1, 0, 0, 0), some (.ireturn, 0, 0, 0)]])
def m_196 : pm_M := (⟨"MoodTownModel", "go", "(I)I"⟩, prog_9_method_56_code, 3, (some .int), 7, 2, 5, 115, 0, 0,
  [[some (.iload_n 1, 0, 0, 0), some (.i2l, 0, 0, 0), some (.lconst 0, 0, 0, 0), some (.ldc2_w 243, 0, 0, 60), none, none, some (.invokestatic 98, 149, 2, 3), none, none, some (.ifCond .ne 5, 14, 0, 0), none, none, some (.iconst (-1), 0, 0, 0), some (.ireturn, 0, 0, 0), some (.aload_n 0, 0, 0, 0), some (.getfield 7, 7, 0, 0)],
   [none, none, some (.bipush 26, 0, 0, 0), none, some (.iaload, 0, 0, 0), some (.iload_n 1, 0, 0, 0), some (.iadd, 0, 0, 0), some (.sipush 999, 0, 0, 0), none, none, some (.if_icmp .le 6, 32, 0, 0), none, none, some (.bipush (-3), 0, 0, 0), none, some (.ireturn, 0, 0, 0)],
   [some (.aload_n 0, 0, 0, 0), some (.invokevirtual 235, 172, 0, 0), none, none, some (.iconst 0, 0, 0, 0), some (.istore_n 2, 0, 0, 0), some (.iload_n 2, 0, 0, 0), some (.iload_n 1, 0, 0, 0), some (.if_icmp .ge 14, 54, 0, 0), none, none, some (.aload_n 0, 0, 0, 0), some (.invokevirtual 217, 191, 0, 0), none, none, some (.pop, 0, 0, 0)],
   [some (.iinc 2 1, 0, 0, 0), none, none, some (.goto (-13), 38, 0, 0), none, none, some (.iconst 0, 0, 0, 0), some (.istore_n 2, 0, 0, 0), some (.iload_n 2, 0, 0, 0), some (.iconst 5, 0, 0, 0), some (.if_icmp .ge 37, 95, 0, 0), none, none, some (.aload_n 0, 0, 0, 0), some (.getfield 7, 7, 0, 0)],
   [none, some (.iconst 0, 0, 0, 0), some (.iload_n 2, 0, 0, 0), some (.iadd, 0, 0, 0), some (.aload_n 0, 0, 0, 0), some (.getfield 23, 7, 20, 0), none, none, some (.iload_n 2, 0, 0, 0), some (.iaload, 0, 0, 0), some (.iastore, 0, 0, 0), some (.aload_n 0, 0, 0, 0), some (.getfield 7, 7, 0, 0), none, none, some (.iconst 5, 0, 0, 0)],
   [some (.iload_n 2, 0, 0, 0), some (.iadd, 0, 0, 0), some (.aload_n 0, 0, 0, 0), some (.getfield 26, 7, 21, 0), none, none, some (.iload_n 2, 0, 0, 0), some (.iaload, 0, 0, 0), some (.iastore, 0, 0, 0), some (.iinc 2 1, 0, 0, 0), none, none, some (.goto (-36), 56, 0, 0), none, none, some (.aload_n 0, 0, 0, 0)],
   [some (.getfield 7, 7, 0, 0), none, none, some (.bipush 26, 0, 0, 0), none, some (.dup2, 0, 0, 0), some (.iaload, 0, 0, 0), some (.iload_n 1, 0, 0, 0), some (.iadd, 0, 0, 0), some (.iastore, 0, 0, 0), some (.aload_n 0, 0, 0, 0), some (.invokevirtual 221, 197, 0, 0), none, none, some (.ireturn, 0, 0, 0)]])
def m_197 : pm_M := (⟨"MoodTownModel", "atGoals", "()I"⟩, prog_9_method_38_code, 3, (some .int), 7, 1, 1, 20, 0, 0,
  [[some (.iconst 0, 0, 0, 0), some (.istore_n 1, 0, 0, 0), some (.iconst 0, 0, 0, 0), some (.istore_n 2, 0, 0, 0), some (.iload_n 2, 0, 0, 0), some (.aload_n 0, 0, 0, 0), some (.getfield 180, 7, 27, 0), none, none, some (.if_icmp .ge 46, 55, 0, 0), none, none, some (.iload_n 1, 0, 0, 0), some (.aload_n 0, 0, 0, 0), some (.getfield 32, 7, 23, 0)],
   [none, some (.iload_n 2, 0, 0, 0), some (.iaload, 0, 0, 0), some (.bipush (-4), 0, 0, 0), none, some (.if_icmp .eq 22, 43, 0, 0), none, none, some (.aload_n 0, 0, 0, 0), some (.getfield 23, 7, 20, 0), none, none, some (.iload_n 2, 0, 0, 0), some (.iaload, 0, 0, 0), some (.aload_n 0, 0, 0, 0), some (.getfield 32, 7, 23, 0)],
   [none, none, some (.iload_n 2, 0, 0, 0), some (.iaload, 0, 0, 0), some (.if_icmp .ne 7, 43, 0, 0), none, none, some (.iconst 1, 0, 0, 0), some (.goto 4, 44, 0, 0), none, none, some (.iconst 0, 0, 0, 0), some (.invokestatic 163, 164, 2, 1), none, none, some (.iadd, 0, 0, 0)],
   [some (.istore_n 1, 0, 0, 0), some (.iinc 2 1, 0, 0, 0), none, none, some (.goto (-48), 4, 0, 0), none, none, some (.iload_n 1, 0, 0, 0), some (.ireturn, 0, 0, 0)]])
def m_198 : pm_M := (⟨"MoodTownModel", "ahead", "(III)I"⟩, prog_9_method_57_code, 5, (some .int), 7, 4, 5, 115, 0, 0,
  [[some (.aload_n 0, 0, 0, 0), some (.iload_n 1, 0, 0, 0), some (.invokevirtual 227, 169, 0, 1), none, none, some (.ifCond .eq 25, 30, 0, 0), none, none, some (.iload_n 2, 0, 0, 0), some (.i2l, 0, 0, 0), some (.lconst 0, 0, 0, 0), some (.ldc2_w 243, 0, 0, 60), none, none, some (.invokestatic 98, 149, 2, 3)],
   [none, some (.ifCond .eq 13, 30, 0, 0), none, none, some (.iload_n 3, 0, 0, 0), some (.i2l, 0, 0, 0), some (.lconst 0, 0, 0, 0), some (.lconst 1, 0, 0, 0), some (.invokestatic 98, 149, 2, 3), none, none, some (.ifCond .ne 5, 32, 0, 0), none, none, some (.iconst (-1), 0, 0, 0), some (.ireturn, 0, 0, 0)],
   [some (.aload_n 0, 0, 0, 0), some (.invokevirtual 235, 172, 0, 0), none, none, some (.iconst 0, 0, 0, 0), some (.istore 4, 0, 0, 0), none, some (.iload 4, 0, 0, 0), none, some (.iload_n 2, 0, 0, 0), some (.if_icmp .ge 14, 56, 0, 0), none, none, some (.aload_n 0, 0, 0, 0), some (.invokevirtual 217, 191, 0, 0)],
   [none, some (.pop, 0, 0, 0), some (.iinc 4 1, 0, 0, 0), none, none, some (.goto (-14), 39, 0, 0), none, none, some (.iload_n 3, 0, 0, 0), some (.ifCond .ne 12, 69, 0, 0), none, none, some (.aload_n 0, 0, 0, 0), some (.getfield 23, 7, 20, 0)],
   [some (.iload_n 1, 0, 0, 0), some (.iaload, 0, 0, 0), some (.goto 9, 75, 0, 0), none, none, some (.aload_n 0, 0, 0, 0), some (.getfield 26, 7, 21, 0), none, none, some (.iload_n 1, 0, 0, 0), some (.iaload, 0, 0, 0), some (.ireturn, 0, 0, 0)]])
def m_199 : pm_M := (⟨"MoodTownModel", "rest", "()I"⟩, prog_9_method_58_code, 2, (some .int), 7, 1, 5, 115, 0, 0,
  [[some (.aload_n 0, 0, 0, 0), some (.invokevirtual 235, 172, 0, 0), none, none, some (.iconst 0, 0, 0, 0), some (.istore_n 1, 0, 0, 0), some (.iload_n 1, 0, 0, 0), some (.bipush 60, 0, 0, 0), none, some (.if_icmp .gt 18, 27, 0, 0), none, none, some (.aload_n 0, 0, 0, 0), some (.invokevirtual 217, 191, 0, 0)],
   [some (.ifCond .ne 5, 21, 0, 0), none, none, some (.iload_n 1, 0, 0, 0), some (.ireturn, 0, 0, 0), some (.iinc 1 1, 0, 0, 0), none, none, some (.goto (-18), 6, 0, 0), none, none, some (.bipush (-4), 0, 0, 0), none, some (.ireturn, 0, 0, 0)]])
def m_200 : pm_M := (⟨"MoodTownModel", "again", "(I)I"⟩, prog_9_method_59_code, 4, (some .int), 7, 2, 5, 115, 0, 0,
  [[some (.iload_n 1, 0, 0, 0), some (.i2l, 0, 0, 0), some (.lconst 0, 0, 0, 0), some (.lconst 1, 0, 0, 0), some (.invokestatic 98, 149, 2, 3), none, none, some (.ifCond .ne 5, 12, 0, 0), none, none, some (.iconst (-1), 0, 0, 0), some (.ireturn, 0, 0, 0), some (.aload_n 0, 0, 0, 0), some (.invokevirtual 235, 172, 0, 0)],
   [some (.iconst 0, 0, 0, 0), some (.istore_n 2, 0, 0, 0), some (.iload_n 2, 0, 0, 0), some (.bipush 60, 0, 0, 0), none, some (.if_icmp .gt 142, 163, 0, 0), none, none, some (.aload_n 0, 0, 0, 0), some (.getfield 44, 7, 28, 0), none, none, some (.iload_n 2, 0, 0, 0), some (.iconst 0, 0, 0, 0), some (.iastore, 0, 0, 0), some (.aload_n 0, 0, 0, 0)],
   [some (.getfield 47, 7, 29, 0), none, none, some (.iload_n 2, 0, 0, 0), some (.iconst 0, 0, 0, 0), some (.iastore, 0, 0, 0), some (.iconst 0, 0, 0, 0), some (.istore_n 3, 0, 0, 0), some (.iload_n 3, 0, 0, 0), some (.aload_n 0, 0, 0, 0), some (.getfield 180, 7, 27, 0), none, none, some (.if_icmp .ge 52, 97, 0, 0)],
   [some (.aload_n 0, 0, 0, 0), some (.getfield 44, 7, 28, 0), none, none, some (.iload_n 2, 0, 0, 0), some (.aload_n 0, 0, 0, 0), some (.getfield 44, 7, 28, 0), none, none, some (.iload_n 2, 0, 0, 0), some (.iaload, 0, 0, 0), some (.bipush 25, 0, 0, 0), none, some (.imul, 0, 0, 0), some (.aload_n 0, 0, 0, 0), some (.getfield 23, 7, 20, 0)],
   [none, none, some (.iload_n 3, 0, 0, 0), some (.iaload, 0, 0, 0), some (.iadd, 0, 0, 0), some (.iastore, 0, 0, 0), some (.aload_n 0, 0, 0, 0), some (.getfield 47, 7, 29, 0), none, none, some (.iload_n 2, 0, 0, 0), some (.aload_n 0, 0, 0, 0), some (.getfield 47, 7, 29, 0), none, none, some (.iload_n 2, 0, 0, 0)],
   [some (.iaload, 0, 0, 0), some (.iconst 4, 0, 0, 0), some (.imul, 0, 0, 0), some (.aload_n 0, 0, 0, 0), some (.getfield 26, 7, 21, 0), none, none, some (.iload_n 3, 0, 0, 0), some (.iaload, 0, 0, 0), some (.iadd, 0, 0, 0), some (.iastore, 0, 0, 0), some (.iinc 3 1, 0, 0, 0), none, none, some (.goto (-54), 40, 0, 0)],
   [none, some (.iconst 0, 0, 0, 0), some (.istore_n 3, 0, 0, 0), some (.iload_n 3, 0, 0, 0), some (.iload_n 2, 0, 0, 0), some (.if_icmp .ge 51, 152, 0, 0), none, none, some (.aload_n 0, 0, 0, 0), some (.getfield 44, 7, 28, 0), none, none, some (.iload_n 3, 0, 0, 0), some (.iaload, 0, 0, 0), some (.aload_n 0, 0, 0, 0), some (.getfield 44, 7, 28, 0)],
   [none, none, some (.iload_n 2, 0, 0, 0), some (.iaload, 0, 0, 0), some (.if_icmp .ne 30, 146, 0, 0), none, none, some (.aload_n 0, 0, 0, 0), some (.getfield 47, 7, 29, 0), none, none, some (.iload_n 3, 0, 0, 0), some (.iaload, 0, 0, 0), some (.aload_n 0, 0, 0, 0), some (.getfield 47, 7, 29, 0)],
   [none, some (.iload_n 2, 0, 0, 0), some (.iaload, 0, 0, 0), some (.if_icmp .ne 15, 146, 0, 0), none, none, some (.iload_n 1, 0, 0, 0), some (.ifCond .ne 7, 142, 0, 0), none, none, some (.iload_n 3, 0, 0, 0), some (.goto 6, 145, 0, 0), none, none, some (.iload_n 2, 0, 0, 0), some (.iload_n 3, 0, 0, 0)],
   [some (.isub, 0, 0, 0), some (.ireturn, 0, 0, 0), some (.iinc 3 1, 0, 0, 0), none, none, some (.goto (-50), 99, 0, 0), none, none, some (.aload_n 0, 0, 0, 0), some (.invokevirtual 217, 191, 0, 0), none, none, some (.pop, 0, 0, 0), some (.iinc 2 1, 0, 0, 0)],
   [some (.goto (-142), 18, 0, 0), none, none, some (.bipush (-4), 0, 0, 0), none, some (.ireturn, 0, 0, 0)]])
def m_201 : pm_M := (⟨"MoodTownModel", "setting", "(II)I"⟩, prog_9_method_62_code, 8, (some .int), 7, 3, 6, 137, 0, 0,
  [[some (.iload_n 1, 0, 0, 0), some (.i2l, 0, 0, 0), some (.lconst 0, 0, 0, 0), some (.ldc2_w 245, 0, 0, 12), none, none, some (.invokestatic 98, 149, 2, 3), none, none, some (.ifCond .eq 18, 27, 0, 0), none, none, some (.iload_n 2, 0, 0, 0), some (.ifCond .eq 16, 29, 0, 0)],
   [some (.aload_n 0, 0, 0, 0), some (.iload_n 2, 0, 0, 0), some (.bipush 10, 0, 0, 0), none, some (.isub, 0, 0, 0), some (.invokevirtual 227, 169, 0, 1), none, none, some (.ifCond .ne 5, 29, 0, 0), none, none, some (.iconst (-1), 0, 0, 0), some (.ireturn, 0, 0, 0), some (.ldc 247, 0, 0, 1000000), none, some (.istore_n 3, 0, 0, 0)],
   [some (.bipush (-4), 0, 0, 0), none, some (.istore 4, 0, 0, 0), none, some (.iconst 0, 0, 0, 0), some (.istore 5, 0, 0, 0), none, some (.iload 5, 0, 0, 0), none, some (.aload_n 0, 0, 0, 0), some (.getfield 93, 7, 4, 0), none, none, some (.invokestatic 248, 202, 2, 1)],
   [some (.if_icmp .ge 103, 151, 0, 0), none, none, some (.iconst 0, 0, 0, 0), some (.istore 6, 0, 0, 0), none, some (.aload_n 0, 0, 0, 0), some (.invokevirtual 235, 172, 0, 0), none, none, some (.iconst 0, 0, 0, 0), some (.istore 7, 0, 0, 0), none, some (.iload 7, 0, 0, 0), none, some (.aload_n 0, 0, 0, 0)],
   [some (.getfield 93, 7, 4, 0), none, none, some (.if_icmp .ge 57, 124, 0, 0), none, none, some (.iload 6, 0, 0, 0), none, some (.aload_n 0, 0, 0, 0), some (.iload 5, 0, 0, 0), none, some (.iload 7, 0, 0, 0), none, some (.invokevirtual 251, 203, 0, 2)],
   [some (.aload_n 0, 0, 0, 0), some (.getfield 7, 7, 0, 0), none, none, some (.iconst 5, 0, 0, 0), some (.iload 7, 0, 0, 0), none, some (.iadd, 0, 0, 0), some (.iaload, 0, 0, 0), some (.if_icmp .eq 7, 96, 0, 0), none, none, some (.iconst 1, 0, 0, 0), some (.goto 4, 97, 0, 0)],
   [some (.iconst 0, 0, 0, 0), some (.invokestatic 163, 164, 2, 1), none, none, some (.iadd, 0, 0, 0), some (.istore 6, 0, 0, 0), none, some (.aload_n 0, 0, 0, 0), some (.getfield 26, 7, 21, 0), none, none, some (.iload 7, 0, 0, 0), none, some (.aload_n 0, 0, 0, 0), some (.iload 5, 0, 0, 0)],
   [some (.iload 7, 0, 0, 0), none, some (.invokevirtual 251, 203, 0, 2), none, none, some (.iastore, 0, 0, 0), some (.iinc 7 1, 0, 0, 0), none, none, some (.goto (-60), 61, 0, 0), none, none, some (.iload 6, 0, 0, 0), none, some (.iload_n 3, 0, 0, 0), some (.if_icmp .ge 18, 145, 0, 0)],
   [none, none, some (.aload_n 0, 0, 0, 0), some (.iload_n 1, 0, 0, 0), some (.invokevirtual 254, 204, 0, 1), none, none, some (.ifCond .eq 10, 145, 0, 0), none, none, some (.iload 6, 0, 0, 0), none, some (.istore_n 3, 0, 0, 0), some (.iload 5, 0, 0, 0), none, some (.istore 4, 0, 0, 0)],
   [none, some (.iinc 5 1, 0, 0, 0), none, none, some (.goto (-109), 39, 0, 0), none, none, some (.iload 4, 0, 0, 0), none, some (.bipush (-4), 0, 0, 0), none, some (.if_icmp .ne 8, 163, 0, 0), none, none, some (.bipush (-4), 0, 0, 0)],
   [some (.goto 21, 181, 0, 0), none, none, some (.iload_n 2, 0, 0, 0), some (.ifCond .ne 7, 171, 0, 0), none, none, some (.iload_n 3, 0, 0, 0), some (.goto 13, 181, 0, 0), none, none, some (.aload_n 0, 0, 0, 0), some (.iload 4, 0, 0, 0), none, some (.iload_n 2, 0, 0, 0), some (.bipush 10, 0, 0, 0)],
   [none, some (.isub, 0, 0, 0), some (.invokevirtual 251, 203, 0, 2), none, none, some (.ireturn, 0, 0, 0)]])
def m_202 : pm_M := (⟨"MoodTownModel", "rowsOf", "(I)I"⟩, prog_9_method_60_code, 1, (some .int), 7, 1, 0, 0, 0, 0,
  [[some (.iconst 1, 0, 0, 0), some (.iconst 2, 0, 0, 0), some (.iload_n 0, 0, 0, 0), some (.imul, 0, 0, 0), some (.ishl, 0, 0, 0), some (.ireturn, 0, 0, 0)]])
def m_203 : pm_M := (⟨"MoodTownModel", "moodBy", "(II)I"⟩, prog_9_method_61_code, 3, (some .int), 7, 3, 0, 0, 0, 0,
  [[some (.iload_n 1, 0, 0, 0), some (.iconst 2, 0, 0, 0), some (.aload_n 0, 0, 0, 0), some (.getfield 93, 7, 4, 0), none, none, some (.iconst 1, 0, 0, 0), some (.isub, 0, 0, 0), some (.iload_n 2, 0, 0, 0), some (.isub, 0, 0, 0), some (.imul, 0, 0, 0), some (.ishr, 0, 0, 0), some (.iconst 3, 0, 0, 0), some (.iand, 0, 0, 0), some (.ireturn, 0, 0, 0)]])
def m_204 : pm_M := (⟨"MoodTownModel", "areAllThere", "(I)Z"⟩, prog_9_method_40_code, 3, (some .boolean), 7, 2, 5, 115, 0, 0,
  [[some (.iconst 0, 0, 0, 0), some (.istore_n 2, 0, 0, 0), some (.iload_n 2, 0, 0, 0), some (.iload_n 1, 0, 0, 0), some (.if_icmp .ge 14, 18, 0, 0), none, none, some (.aload_n 0, 0, 0, 0), some (.invokevirtual 217, 191, 0, 0), none, none, some (.pop, 0, 0, 0), some (.iinc 2 1, 0, 0, 0), none, none, some (.goto (-13), 2, 0, 0)],
   [none, none, some (.aload_n 0, 0, 0, 0), some (.invokevirtual 221, 197, 0, 0), none, none, some (.aload_n 0, 0, 0, 0), some (.invokevirtual 224, 205, 0, 0), none, none, some (.if_icmp .ne 7, 33, 0, 0), none, none, some (.iconst 1, 0, 0, 0), some (.goto 4, 34, 0, 0)],
   [none, some (.iconst 0, 0, 0, 0), some (.ireturn, 0, 0, 0)]])
def m_205 : pm_M := (⟨"MoodTownModel", "haveGoals", "()I"⟩, prog_9_method_39_code, 3, (some .int), 7, 1, 1, 20, 0, 0,
  [[some (.iconst 0, 0, 0, 0), some (.istore_n 1, 0, 0, 0), some (.iconst 0, 0, 0, 0), some (.istore_n 2, 0, 0, 0), some (.iload_n 2, 0, 0, 0), some (.aload_n 0, 0, 0, 0), some (.getfield 93, 7, 4, 0), none, none, some (.if_icmp .ge 34, 43, 0, 0), none, none, some (.iload_n 1, 0, 0, 0), some (.aload_n 0, 0, 0, 0), some (.getfield 7, 7, 0, 0)],
   [none, some (.bipush 15, 0, 0, 0), none, some (.iload_n 2, 0, 0, 0), some (.iadd, 0, 0, 0), some (.iaload, 0, 0, 0), some (.bipush (-4), 0, 0, 0), none, some (.if_icmp .eq 7, 31, 0, 0), none, none, some (.iconst 1, 0, 0, 0), some (.goto 4, 32, 0, 0), none, none, some (.iconst 0, 0, 0, 0)],
   [some (.invokestatic 163, 164, 2, 1), none, none, some (.iadd, 0, 0, 0), some (.istore_n 1, 0, 0, 0), some (.iinc 2 1, 0, 0, 0), none, none, some (.goto (-36), 4, 0, 0), none, none, some (.iload_n 1, 0, 0, 0), some (.ireturn, 0, 0, 0)]])
def m_206 : pm_M := (⟨"MoodTownModel", "out", "()I"⟩, prog_9_method_63_code, 4, (some .int), 7, 1, 5, 115, 0, 0,
  [[some (.iconst 0, 0, 0, 0), some (.istore_n 1, 0, 0, 0), some (.iconst 0, 0, 0, 0), some (.istore_n 2, 0, 0, 0), some (.iload_n 2, 0, 0, 0), some (.aload_n 0, 0, 0, 0), some (.getfield 93, 7, 4, 0), none, none, some (.if_icmp .ge 103, 112, 0, 0), none, none, some (.aload_n 0, 0, 0, 0), some (.invokevirtual 235, 172, 0, 0)],
   [some (.iload_n 2, 0, 0, 0), some (.istore_n 3, 0, 0, 0), some (.iload_n 3, 0, 0, 0), some (.iconst 1, 0, 0, 0), some (.iadd, 0, 0, 0), some (.aload_n 0, 0, 0, 0), some (.getfield 93, 7, 4, 0), none, none, some (.if_icmp .ge 51, 76, 0, 0), none, none, some (.aload_n 0, 0, 0, 0), some (.getfield 23, 7, 20, 0)],
   [some (.iload_n 3, 0, 0, 0), some (.aload_n 0, 0, 0, 0), some (.getfield 23, 7, 20, 0), none, none, some (.iload_n 3, 0, 0, 0), some (.iconst 1, 0, 0, 0), some (.iadd, 0, 0, 0), some (.iaload, 0, 0, 0), some (.iastore, 0, 0, 0), some (.aload_n 0, 0, 0, 0), some (.getfield 26, 7, 21, 0), none, none, some (.iload_n 3, 0, 0, 0), some (.aload_n 0, 0, 0, 0)],
   [some (.getfield 26, 7, 21, 0), none, none, some (.iload_n 3, 0, 0, 0), some (.iconst 1, 0, 0, 0), some (.iadd, 0, 0, 0), some (.iaload, 0, 0, 0), some (.iastore, 0, 0, 0), some (.aload_n 0, 0, 0, 0), some (.getfield 29, 7, 22, 0), none, none, some (.iload_n 3, 0, 0, 0), some (.aload_n 0, 0, 0, 0), some (.getfield 29, 7, 22, 0)],
   [none, some (.iload_n 3, 0, 0, 0), some (.iconst 1, 0, 0, 0), some (.iadd, 0, 0, 0), some (.iaload, 0, 0, 0), some (.iastore, 0, 0, 0), some (.iinc 3 1, 0, 0, 0), none, none, some (.goto (-55), 18, 0, 0), none, none, some (.aload_n 0, 0, 0, 0), some (.aload_n 0, 0, 0, 0), some (.getfield 93, 7, 4, 0)],
   [none, some (.iconst 1, 0, 0, 0), some (.isub, 0, 0, 0), some (.putfield 180, 7, 27, 0), none, none, some (.iload_n 1, 0, 0, 0), some (.aload_n 0, 0, 0, 0), some (.invokevirtual 217, 191, 0, 0), none, none, some (.ifCond .ne 7, 98, 0, 0), none, none, some (.iconst 1, 0, 0, 0), some (.goto 4, 99, 0, 0)],
   [none, none, some (.iconst 0, 0, 0, 0), some (.invokestatic 163, 164, 2, 1), none, none, some (.iload_n 2, 0, 0, 0), some (.ishl, 0, 0, 0), some (.ior, 0, 0, 0), some (.istore_n 1, 0, 0, 0), some (.iinc 2 1, 0, 0, 0), none, none, some (.goto (-105), 4, 0, 0)],
   [some (.iload_n 1, 0, 0, 0), some (.ireturn, 0, 0, 0)]])
def m_207 : pm_M := (⟨"MoodTownModel", "calm", "(I)I"⟩, prog_9_method_64_code, 5, (some .int), 7, 2, 5, 115, 0, 0,
  [[some (.aload_n 0, 0, 0, 0), some (.iload_n 1, 0, 0, 0), some (.invokevirtual 227, 169, 0, 1), none, none, some (.ifCond .ne 5, 10, 0, 0), none, none, some (.iconst (-1), 0, 0, 0), some (.ireturn, 0, 0, 0), some (.iconst 0, 0, 0, 0), some (.istore_n 2, 0, 0, 0), some (.iconst 0, 0, 0, 0), some (.istore_n 3, 0, 0, 0), some (.iload_n 3, 0, 0, 0), some (.aload_n 0, 0, 0, 0)],
   [some (.getfield 87, 7, 2, 0), none, none, some (.aload_n 0, 0, 0, 0), some (.getfield 90, 7, 3, 0), none, none, some (.imul, 0, 0, 0), some (.if_icmp .ge 68, 92, 0, 0), none, none, some (.aload_n 0, 0, 0, 0), some (.invokevirtual 235, 172, 0, 0), none, none, some (.aload_n 0, 0, 0, 0)],
   [some (.iload_n 3, 0, 0, 0), some (.invokevirtual 201, 173, 0, 1), none, none, some (.istore 4, 0, 0, 0), none, some (.aload_n 0, 0, 0, 0), some (.iload_n 3, 0, 0, 0), some (.invokevirtual 207, 177, 0, 1), none, none, some (.ifCond .eq 43, 86, 0, 0), none, none, some (.iload 4, 0, 0, 0)],
   [some (.bipush (-4), 0, 0, 0), none, some (.if_icmp .eq 9, 59, 0, 0), none, none, some (.iload 4, 0, 0, 0), none, some (.iload_n 1, 0, 0, 0), some (.if_icmp .ne 30, 86, 0, 0), none, none, some (.aload_n 0, 0, 0, 0), some (.getfield 23, 7, 20, 0), none, none, some (.iload_n 1, 0, 0, 0)],
   [some (.iload_n 3, 0, 0, 0), some (.iastore, 0, 0, 0), some (.iload_n 2, 0, 0, 0), some (.aload_n 0, 0, 0, 0), some (.invokevirtual 217, 191, 0, 0), none, none, some (.ifCond .ne 7, 78, 0, 0), none, none, some (.iconst 1, 0, 0, 0), some (.goto 4, 79, 0, 0), none, none, some (.iconst 0, 0, 0, 0), some (.invokestatic 163, 164, 2, 1)],
   [none, none, some (.iload_n 3, 0, 0, 0), some (.ishl, 0, 0, 0), some (.ior, 0, 0, 0), some (.istore_n 2, 0, 0, 0), some (.iinc 3 1, 0, 0, 0), none, none, some (.goto (-75), 14, 0, 0), none, none, some (.iload_n 2, 0, 0, 0), some (.ireturn, 0, 0, 0)]])
def m_208 : pm_M := (⟨"MoodTownModel", "nurse", "(IIII)I"⟩, prog_9_method_65_code, 9, (some .int), 7, 5, 5, 115, 0, 0,
  [[some (.iload_n 1, 0, 0, 0), some (.iload_n 2, 0, 0, 0), some (.if_icmp .eq 17, 19, 0, 0), none, none, some (.iload_n 1, 0, 0, 0), some (.iload_n 3, 0, 0, 0), some (.if_icmp .eq 12, 19, 0, 0), none, none, some (.iload_n 2, 0, 0, 0), some (.iload_n 3, 0, 0, 0), some (.if_icmp .eq 7, 19, 0, 0), none, none, some (.iconst 1, 0, 0, 0)],
   [some (.goto 4, 20, 0, 0), none, none, some (.iconst 0, 0, 0, 0), some (.istore 5, 0, 0, 0), none, some (.aload_n 0, 0, 0, 0), some (.iload_n 1, 0, 0, 0), some (.invokevirtual 227, 169, 0, 1), none, none, some (.ifCond .eq 44, 71, 0, 0), none, none, some (.aload_n 0, 0, 0, 0), some (.iload_n 2, 0, 0, 0)],
   [some (.invokevirtual 227, 169, 0, 1), none, none, some (.ifCond .eq 36, 71, 0, 0), none, none, some (.aload_n 0, 0, 0, 0), some (.iload_n 3, 0, 0, 0), some (.invokevirtual 227, 169, 0, 1), none, none, some (.ifCond .eq 28, 71, 0, 0), none, none, some (.iload 5, 0, 0, 0)],
   [some (.ifCond .eq 23, 71, 0, 0), none, none, some (.iload 4, 0, 0, 0), none, some (.ifCond .eq 20, 73, 0, 0), none, none, some (.iload 4, 0, 0, 0), none, some (.i2l, 0, 0, 0), some (.ldc2_w 257, 0, 0, 10), none, none, some (.ldc2_w 259, 0, 0, 13)],
   [none, some (.invokestatic 98, 149, 2, 3), none, none, some (.ifCond .ne 5, 73, 0, 0), none, none, some (.iconst (-1), 0, 0, 0), some (.ireturn, 0, 0, 0), some (.iconst 0, 0, 0, 0), some (.istore 6, 0, 0, 0), none, some (.iload 6, 0, 0, 0), none, some (.iconst 4, 0, 0, 0), some (.if_icmp .gt 126, 205, 0, 0)],
   [none, none, some (.iconst 0, 0, 0, 0), some (.istore 7, 0, 0, 0), none, some (.iload 7, 0, 0, 0), none, some (.iload 6, 0, 0, 0), none, some (.invokestatic 248, 202, 2, 1), none, none, some (.if_icmp .ge 107, 199, 0, 0), none, none, some (.aload_n 0, 0, 0, 0)],
   [some (.invokevirtual 235, 172, 0, 0), none, none, some (.iconst 0, 0, 0, 0), some (.istore 8, 0, 0, 0), none, some (.iload 8, 0, 0, 0), none, some (.iload 6, 0, 0, 0), none, some (.if_icmp .ge 34, 140, 0, 0), none, none, some (.aload_n 0, 0, 0, 0), some (.getfield 26, 7, 21, 0)],
   [none, some (.iload_n 1, 0, 0, 0), some (.iload 7, 0, 0, 0), none, some (.iconst 2, 0, 0, 0), some (.iload 6, 0, 0, 0), none, some (.iconst 1, 0, 0, 0), some (.isub, 0, 0, 0), some (.iload 8, 0, 0, 0), none, some (.isub, 0, 0, 0), some (.imul, 0, 0, 0), some (.ishr, 0, 0, 0), some (.iconst 3, 0, 0, 0), some (.iand, 0, 0, 0)],
   [some (.iastore, 0, 0, 0), some (.aload_n 0, 0, 0, 0), some (.invokevirtual 217, 191, 0, 0), none, none, some (.pop, 0, 0, 0), some (.iinc 8 1, 0, 0, 0), none, none, some (.goto (-35), 102, 0, 0), none, none, some (.aload_n 0, 0, 0, 0), some (.iload_n 2, 0, 0, 0), some (.iload_n 3, 0, 0, 0), some (.invokevirtual 186, 185, 0, 2)],
   [none, none, some (.iconst 1, 0, 0, 0), some (.if_icmp .le 46, 193, 0, 0), none, none, some (.iload 4, 0, 0, 0), none, some (.ifCond .ne 8, 160, 0, 0), none, none, some (.iload 6, 0, 0, 0), none, some (.goto 35, 192, 0, 0)],
   [some (.iload 4, 0, 0, 0), none, some (.bipush 10, 0, 0, 0), none, some (.isub, 0, 0, 0), some (.iload 6, 0, 0, 0), none, some (.if_icmp .ge 23, 190, 0, 0), none, none, some (.iload 7, 0, 0, 0), none, some (.iconst 2, 0, 0, 0), some (.iload 6, 0, 0, 0), none, some (.iconst 1, 0, 0, 0)],
   [some (.isub, 0, 0, 0), some (.iload 4, 0, 0, 0), none, some (.bipush 10, 0, 0, 0), none, some (.isub, 0, 0, 0), some (.isub, 0, 0, 0), some (.imul, 0, 0, 0), some (.ishr, 0, 0, 0), some (.iconst 3, 0, 0, 0), some (.iand, 0, 0, 0), some (.goto 5, 192, 0, 0), none, none, some (.bipush (-4), 0, 0, 0)],
   [some (.ireturn, 0, 0, 0), some (.iinc 7 1, 0, 0, 0), none, none, some (.goto (-111), 85, 0, 0), none, none, some (.iinc 6 1, 0, 0, 0), none, none, some (.goto (-126), 76, 0, 0), none, none, some (.bipush (-4), 0, 0, 0), none, some (.ireturn, 0, 0, 0)]])
def m_209 : pm_M := (⟨"MoodTownModel", "hang", "(III)I"⟩, prog_9_method_66_code, 8, (some .int), 7, 4, 5, 115, 0, 0,
  [[some (.iload_n 1, 0, 0, 0), some (.i2l, 0, 0, 0), some (.lconst 1, 0, 0, 0), some (.ldc2_w 230, 0, 0, 3), none, none, some (.invokestatic 98, 149, 2, 3), none, none, some (.ifCond .eq 25, 34, 0, 0), none, none, some (.iload_n 2, 0, 0, 0), some (.i2l, 0, 0, 0), some (.lconst 0, 0, 0, 0), some (.ldc2_w 245, 0, 0, 12)],
   [none, none, some (.invokestatic 98, 149, 2, 3), none, none, some (.ifCond .eq 13, 34, 0, 0), none, none, some (.iload_n 3, 0, 0, 0), some (.i2l, 0, 0, 0), some (.lconst 0, 0, 0, 0), some (.lconst 1, 0, 0, 0), some (.invokestatic 98, 149, 2, 3), none, none, some (.ifCond .ne 5, 36, 0, 0)],
   [none, none, some (.iconst (-1), 0, 0, 0), some (.ireturn, 0, 0, 0), some (.iconst (-1), 0, 0, 0), some (.istore 4, 0, 0, 0), none, some (.bipush (-4), 0, 0, 0), none, some (.istore 5, 0, 0, 0), none, some (.iconst 0, 0, 0, 0), some (.istore 6, 0, 0, 0), none, some (.iload 6, 0, 0, 0)],
   [some (.aload_n 0, 0, 0, 0), some (.getfield 87, 7, 2, 0), none, none, some (.aload_n 0, 0, 0, 0), some (.getfield 90, 7, 3, 0), none, none, some (.imul, 0, 0, 0), some (.if_icmp .ge 143, 200, 0, 0), none, none, some (.aload_n 0, 0, 0, 0), some (.invokevirtual 235, 172, 0, 0)],
   [some (.aload_n 0, 0, 0, 0), some (.iload 6, 0, 0, 0), none, some (.invokevirtual 207, 177, 0, 1), none, none, some (.ifCond .eq 124, 194, 0, 0), none, none, some (.aload_n 0, 0, 0, 0), some (.iload 6, 0, 0, 0), none, some (.invokevirtual 201, 173, 0, 1), none, none, some (.bipush (-4), 0, 0, 0)],
   [none, some (.if_icmp .ne 113, 194, 0, 0), none, none, some (.aload_n 0, 0, 0, 0), some (.getfield 23, 7, 20, 0), none, none, some (.aload_n 0, 0, 0, 0), some (.getfield 93, 7, 4, 0), none, none, some (.iload 6, 0, 0, 0), none, some (.iastore, 0, 0, 0), some (.aload_n 0, 0, 0, 0)],
   [some (.getfield 26, 7, 21, 0), none, none, some (.aload_n 0, 0, 0, 0), some (.getfield 93, 7, 4, 0), none, none, some (.iload_n 1, 0, 0, 0), some (.iastore, 0, 0, 0), some (.aload_n 0, 0, 0, 0), some (.getfield 29, 7, 22, 0), none, none, some (.aload_n 0, 0, 0, 0), some (.getfield 93, 7, 4, 0)],
   [none, some (.iconst 1, 0, 0, 0), some (.iastore, 0, 0, 0), some (.aload_n 0, 0, 0, 0), some (.getfield 32, 7, 23, 0), none, none, some (.aload_n 0, 0, 0, 0), some (.getfield 93, 7, 4, 0), none, none, some (.bipush (-4), 0, 0, 0), none, some (.iastore, 0, 0, 0), some (.aload_n 0, 0, 0, 0), some (.aload_n 0, 0, 0, 0)],
   [some (.getfield 93, 7, 4, 0), none, none, some (.iconst 1, 0, 0, 0), some (.iadd, 0, 0, 0), some (.putfield 180, 7, 27, 0), none, none, some (.iconst 0, 0, 0, 0), some (.istore 7, 0, 0, 0), none, some (.iload 7, 0, 0, 0), none, some (.iload_n 2, 0, 0, 0), some (.if_icmp .ge 14, 156, 0, 0)],
   [none, some (.aload_n 0, 0, 0, 0), some (.invokevirtual 217, 191, 0, 0), none, none, some (.pop, 0, 0, 0), some (.iinc 7 1, 0, 0, 0), none, none, some (.goto (-14), 139, 0, 0), none, none, some (.aload_n 0, 0, 0, 0), some (.invokevirtual 221, 197, 0, 0)],
   [some (.iload 4, 0, 0, 0), none, some (.if_icmp .le 8, 170, 0, 0), none, none, some (.iload 6, 0, 0, 0), none, some (.goto 5, 172, 0, 0), none, none, some (.iload 5, 0, 0, 0), none, some (.istore 5, 0, 0, 0), none, some (.aload_n 0, 0, 0, 0), some (.invokevirtual 221, 197, 0, 0)],
   [none, none, some (.iload 4, 0, 0, 0), none, some (.if_icmp .le 10, 190, 0, 0), none, none, some (.aload_n 0, 0, 0, 0), some (.invokevirtual 221, 197, 0, 0), none, none, some (.goto 5, 192, 0, 0), none, none, some (.iload 4, 0, 0, 0)],
   [some (.istore 4, 0, 0, 0), none, some (.iinc 6 1, 0, 0, 0), none, none, some (.goto (-151), 46, 0, 0), none, none, some (.iload 5, 0, 0, 0), none, some (.bipush (-4), 0, 0, 0), none, some (.if_icmp .ne 8, 212, 0, 0), none, none, some (.bipush (-4), 0, 0, 0)],
   [none, some (.goto 14, 223, 0, 0), none, none, some (.iload_n 3, 0, 0, 0), some (.ifCond .ne 8, 221, 0, 0), none, none, some (.iload 5, 0, 0, 0), none, some (.goto 5, 223, 0, 0), none, none, some (.iload 4, 0, 0, 0), none, some (.ireturn, 0, 0, 0)]])
def m_210 : pm_M := (⟨"MoodTownModel", "odds", "(III)J"⟩, prog_9_method_68_code, 13, (some .long), 7, 4, 6, 137, 0, 0,
  [[some (.iload_n 1, 0, 0, 0), some (.i2l, 0, 0, 0), some (.lconst 0, 0, 0, 0), some (.ldc2_w 257, 0, 0, 10), none, none, some (.invokestatic 98, 149, 2, 3), none, none, some (.ifCond .eq 25, 34, 0, 0), none, none, some (.iload_n 2, 0, 0, 0), some (.i2l, 0, 0, 0), some (.lconst 0, 0, 0, 0), some (.ldc2_w 245, 0, 0, 12)],
   [none, none, some (.invokestatic 98, 149, 2, 3), none, none, some (.ifCond .eq 13, 34, 0, 0), none, none, some (.iload_n 3, 0, 0, 0), some (.i2l, 0, 0, 0), some (.lconst 0, 0, 0, 0), some (.lconst 1, 0, 0, 0), some (.invokestatic 98, 149, 2, 3), none, none, some (.ifCond .ne 7, 38, 0, 0)],
   [none, none, some (.ldc2_w 261, 0, 0, (-1)), none, none, some (.lreturn, 0, 0, 0), some (.lconst 0, 0, 0, 0), some (.lstore 4, 0, 0, 0), none, some (.lconst 1, 0, 0, 0), some (.lstore 6, 0, 0, 0), none, some (.iconst 0, 0, 0, 0), some (.istore 8, 0, 0, 0), none, some (.iload 8, 0, 0, 0)],
   [none, some (.aload_n 0, 0, 0, 0), some (.getfield 93, 7, 4, 0), none, none, some (.if_icmp .ge 17, 70, 0, 0), none, none, some (.lload 6, 0, 0, 0), none, some (.ldc2_w 257, 0, 0, 10), none, none, some (.lmul, 0, 0, 0), some (.lstore 6, 0, 0, 0)],
   [some (.iinc 8 1, 0, 0, 0), none, none, some (.goto (-20), 47, 0, 0), none, none, some (.iconst 0, 0, 0, 0), some (.istore 8, 0, 0, 0), none, some (.iload 8, 0, 0, 0), none, some (.iconst 1, 0, 0, 0), some (.aload_n 0, 0, 0, 0), some (.getfield 93, 7, 4, 0)],
   [some (.ishl, 0, 0, 0), some (.if_icmp .ge 130, 211, 0, 0), none, none, some (.lconst 1, 0, 0, 0), some (.lstore 9, 0, 0, 0), none, some (.aload_n 0, 0, 0, 0), some (.invokevirtual 235, 172, 0, 0), none, none, some (.iconst 0, 0, 0, 0), some (.istore 11, 0, 0, 0), none, some (.iload 11, 0, 0, 0)],
   [some (.aload_n 0, 0, 0, 0), some (.getfield 93, 7, 4, 0), none, none, some (.if_icmp .ge 79, 179, 0, 0), none, none, some (.iload 8, 0, 0, 0), none, some (.iload 11, 0, 0, 0), none, some (.ishr, 0, 0, 0), some (.iconst 1, 0, 0, 0), some (.iand, 0, 0, 0), some (.iconst 1, 0, 0, 0), some (.if_icmp .ne 7, 118, 0, 0)],
   [none, none, some (.iconst 1, 0, 0, 0), some (.goto 4, 119, 0, 0), none, none, some (.iconst 0, 0, 0, 0), some (.istore 12, 0, 0, 0), none, some (.lload 9, 0, 0, 0), none, some (.iload 12, 0, 0, 0), none, some (.ifCond .eq 8, 133, 0, 0)],
   [some (.iload_n 1, 0, 0, 0), some (.i2l, 0, 0, 0), some (.goto 8, 138, 0, 0), none, none, some (.bipush 10, 0, 0, 0), none, some (.iload_n 1, 0, 0, 0), some (.isub, 0, 0, 0), some (.i2l, 0, 0, 0), some (.lmul, 0, 0, 0), some (.lstore 9, 0, 0, 0), none, some (.aload_n 0, 0, 0, 0), some (.getfield 26, 7, 21, 0)],
   [none, some (.iload 11, 0, 0, 0), none, some (.iload 12, 0, 0, 0), none, some (.ifCond .eq 16, 165, 0, 0), none, none, some (.aload_n 0, 0, 0, 0), some (.getfield 26, 7, 21, 0), none, none, some (.iload 11, 0, 0, 0), none, some (.iaload, 0, 0, 0), some (.invokestatic 214, 194, 2, 1)],
   [none, none, some (.goto 10, 172, 0, 0), none, none, some (.aload_n 0, 0, 0, 0), some (.getfield 26, 7, 21, 0), none, none, some (.iload 11, 0, 0, 0), none, some (.iaload, 0, 0, 0), some (.iastore, 0, 0, 0), some (.iinc 11 1, 0, 0, 0)],
   [some (.goto (-82), 94, 0, 0), none, none, some (.lload 4, 0, 0, 0), none, some (.lload 9, 0, 0, 0), none, some (.lconst 0, 0, 0, 0), some (.lcmp, 0, 0, 0), some (.ifCond .le 16, 201, 0, 0), none, none, some (.aload_n 0, 0, 0, 0), some (.iload_n 2, 0, 0, 0), some (.invokevirtual 254, 204, 0, 1)],
   [none, some (.ifCond .eq 8, 201, 0, 0), none, none, some (.lload 9, 0, 0, 0), none, some (.goto 4, 202, 0, 0), none, none, some (.lconst 0, 0, 0, 0), some (.ladd, 0, 0, 0), some (.lstore 4, 0, 0, 0), none, some (.iinc 8 1, 0, 0, 0)],
   [some (.goto (-135), 73, 0, 0), none, none, some (.lload 6, 0, 0, 0), none, some (.lload 4, 0, 0, 0), none, some (.invokestatic 263, 211, 2, 2), none, none, some (.lstore 8, 0, 0, 0), none, some (.iload_n 3, 0, 0, 0), some (.ifCond .ne 11, 232, 0, 0)],
   [some (.lload 4, 0, 0, 0), none, some (.lload 8, 0, 0, 0), none, some (.ldiv, 0, 0, 0), some (.goto 8, 237, 0, 0), none, none, some (.lload 6, 0, 0, 0), none, some (.lload 8, 0, 0, 0), none, some (.ldiv, 0, 0, 0), some (.lreturn, 0, 0, 0)]])
def m_211 : pm_M := (⟨"MoodTownModel", "common", "(JJ)J"⟩, prog_9_method_67_code, 10, (some .long), 7, 2, 0, 0, 0, 0,
  [[some (.lload_n 0, 0, 0, 0), some (.lstore 4, 0, 0, 0), none, some (.lload_n 2, 0, 0, 0), some (.lstore 6, 0, 0, 0), none, some (.lload 6, 0, 0, 0), none, some (.lconst 0, 0, 0, 0), some (.lcmp, 0, 0, 0), some (.ifCond .eq 21, 31, 0, 0), none, none, some (.lload 4, 0, 0, 0), none, some (.lload 6, 0, 0, 0)],
   [none, some (.lrem, 0, 0, 0), some (.lstore 8, 0, 0, 0), none, some (.lload 6, 0, 0, 0), none, some (.lstore 4, 0, 0, 0), none, some (.lload 8, 0, 0, 0), none, some (.lstore 6, 0, 0, 0), none, some (.goto (-22), 6, 0, 0), none, none, some (.lload 4, 0, 0, 0)],
   [none, some (.lreturn, 0, 0, 0)]])
def m_212 : pm_M := (⟨"MoodTownModel", "see", "(II)I"⟩, prog_9_method_69_code, 3, (some .int), 7, 3, 2, 46, 0, 0,
  [[some (.aload_n 0, 0, 0, 0), some (.iload_n 1, 0, 0, 0), some (.invokevirtual 227, 169, 0, 1), none, none, some (.ifCond .eq 15, 20, 0, 0), none, none, some (.iload_n 2, 0, 0, 0), some (.i2l, 0, 0, 0), some (.lconst 0, 0, 0, 0), some (.ldc2_w 189, 0, 0, 4), none, none, some (.invokestatic 98, 149, 2, 3)],
   [none, some (.ifCond .ne 5, 22, 0, 0), none, none, some (.iconst (-1), 0, 0, 0), some (.ireturn, 0, 0, 0), some (.aload_n 0, 0, 0, 0), some (.getfield 7, 7, 0, 0), none, none, some (.bipush 27, 0, 0, 0), none, some (.iaload, 0, 0, 0), some (.bipush 8, 0, 0, 0), none, some (.if_icmp .ne 6, 37, 0, 0)],
   [none, none, some (.bipush (-3), 0, 0, 0), none, some (.ireturn, 0, 0, 0), some (.aload_n 0, 0, 0, 0), some (.getfield 7, 7, 0, 0), none, none, some (.bipush 28, 0, 0, 0), none, some (.iconst 2, 0, 0, 0), some (.aload_n 0, 0, 0, 0), some (.getfield 7, 7, 0, 0)],
   [some (.bipush 27, 0, 0, 0), none, some (.iaload, 0, 0, 0), some (.imul, 0, 0, 0), some (.iadd, 0, 0, 0), some (.iload_n 1, 0, 0, 0), some (.iastore, 0, 0, 0), some (.aload_n 0, 0, 0, 0), some (.getfield 7, 7, 0, 0), none, none, some (.bipush 28, 0, 0, 0), none, some (.iconst 2, 0, 0, 0), some (.aload_n 0, 0, 0, 0), some (.getfield 7, 7, 0, 0)],
   [none, none, some (.bipush 27, 0, 0, 0), none, some (.iaload, 0, 0, 0), some (.imul, 0, 0, 0), some (.iadd, 0, 0, 0), some (.iconst 1, 0, 0, 0), some (.iadd, 0, 0, 0), some (.iload_n 2, 0, 0, 0), some (.iastore, 0, 0, 0), some (.aload_n 0, 0, 0, 0), some (.getfield 7, 7, 0, 0), none, none, some (.bipush 27, 0, 0, 0)],
   [none, some (.dup2, 0, 0, 0), some (.iaload, 0, 0, 0), some (.iconst 1, 0, 0, 0), some (.iadd, 0, 0, 0), some (.iastore, 0, 0, 0), some (.aload_n 0, 0, 0, 0), some (.getfield 7, 7, 0, 0), none, none, some (.bipush 27, 0, 0, 0), none, some (.iaload, 0, 0, 0), some (.ireturn, 0, 0, 0)]])
def m_213 : pm_M := (⟨"MoodTownModel", "forget", "(I)I"⟩, prog_9_method_70_code, 2, (some .int), 7, 2, 1, 25, 0, 0,
  [[some (.iload_n 1, 0, 0, 0), some (.i2l, 0, 0, 0), some (.lconst 0, 0, 0, 0), some (.aload_n 0, 0, 0, 0), some (.getfield 7, 7, 0, 0), none, none, some (.bipush 27, 0, 0, 0), none, some (.iaload, 0, 0, 0), some (.i2l, 0, 0, 0), some (.invokestatic 98, 149, 2, 3), none, none, some (.ifCond .eq 13, 27, 0, 0)],
   [none, some (.aload_n 0, 0, 0, 0), some (.bipush 27, 0, 0, 0), none, some (.iload_n 1, 0, 0, 0), some (.invokevirtual 238, 175, 0, 2), none, none, some (.goto 4, 28, 0, 0), none, none, some (.iconst (-1), 0, 0, 0), some (.ireturn, 0, 0, 0)]])
def m_214 : pm_M := (⟨"MoodTownModel", "moods", "(I)I"⟩, prog_9_method_71_code, 7, (some .int), 7, 2, 5, 115, 0, 0,
  [[some (.iload_n 1, 0, 0, 0), some (.ifCond .eq 16, 17, 0, 0), none, none, some (.aload_n 0, 0, 0, 0), some (.iload_n 1, 0, 0, 0), some (.bipush 10, 0, 0, 0), none, some (.isub, 0, 0, 0), some (.invokevirtual 227, 169, 0, 1), none, none, some (.ifCond .ne 5, 17, 0, 0), none, none, some (.iconst (-1), 0, 0, 0)],
   [some (.ireturn, 0, 0, 0), some (.iconst 0, 0, 0, 0), some (.istore_n 2, 0, 0, 0), some (.iconst 0, 0, 0, 0), some (.istore_n 3, 0, 0, 0), some (.iconst 0, 0, 0, 0), some (.istore 4, 0, 0, 0), none, some (.iload 4, 0, 0, 0), none, some (.aload_n 0, 0, 0, 0), some (.getfield 93, 7, 4, 0), none, none, some (.invokestatic 248, 202, 2, 1)],
   [none, some (.if_icmp .ge 159, 192, 0, 0), none, none, some (.aload_n 0, 0, 0, 0), some (.invokevirtual 235, 172, 0, 0), none, none, some (.iconst 0, 0, 0, 0), some (.istore 5, 0, 0, 0), none, some (.iload 5, 0, 0, 0), none, some (.aload_n 0, 0, 0, 0), some (.getfield 93, 7, 4, 0)],
   [none, some (.if_icmp .ge 24, 73, 0, 0), none, none, some (.aload_n 0, 0, 0, 0), some (.getfield 26, 7, 21, 0), none, none, some (.iload 5, 0, 0, 0), none, some (.aload_n 0, 0, 0, 0), some (.iload 4, 0, 0, 0), none, some (.iload 5, 0, 0, 0), none, some (.invokevirtual 251, 203, 0, 2)],
   [none, none, some (.iastore, 0, 0, 0), some (.iinc 5 1, 0, 0, 0), none, none, some (.goto (-27), 43, 0, 0), none, none, some (.aload_n 0, 0, 0, 0), some (.invokevirtual 217, 191, 0, 0), none, none, some (.pop, 0, 0, 0), some (.iconst 1, 0, 0, 0), some (.istore 5, 0, 0, 0)],
   [none, some (.iconst 0, 0, 0, 0), some (.istore 6, 0, 0, 0), none, some (.iload 6, 0, 0, 0), none, some (.aload_n 0, 0, 0, 0), some (.getfield 7, 7, 0, 0), none, none, some (.bipush 27, 0, 0, 0), none, some (.iaload, 0, 0, 0), some (.if_icmp .ge 55, 148, 0, 0)],
   [some (.iload 5, 0, 0, 0), none, some (.ifCond .eq 41, 139, 0, 0), none, none, some (.aload_n 0, 0, 0, 0), some (.getfield 38, 7, 25, 0), none, none, some (.aload_n 0, 0, 0, 0), some (.getfield 7, 7, 0, 0), none, none, some (.bipush 28, 0, 0, 0), none, some (.iconst 2, 0, 0, 0)],
   [some (.iload 6, 0, 0, 0), none, some (.imul, 0, 0, 0), some (.iadd, 0, 0, 0), some (.iaload, 0, 0, 0), some (.iaload, 0, 0, 0), some (.aload_n 0, 0, 0, 0), some (.getfield 7, 7, 0, 0), none, none, some (.bipush 28, 0, 0, 0), none, some (.iconst 2, 0, 0, 0), some (.iload 6, 0, 0, 0), none, some (.imul, 0, 0, 0)],
   [some (.iadd, 0, 0, 0), some (.iconst 1, 0, 0, 0), some (.iadd, 0, 0, 0), some (.iaload, 0, 0, 0), some (.if_icmp .ne 7, 139, 0, 0), none, none, some (.iconst 1, 0, 0, 0), some (.goto 4, 140, 0, 0), none, none, some (.iconst 0, 0, 0, 0), some (.istore 5, 0, 0, 0), none, some (.iinc 6 1, 0, 0, 0)],
   [none, some (.goto (-61), 84, 0, 0), none, none, some (.iload_n 2, 0, 0, 0), some (.iload 5, 0, 0, 0), none, some (.invokestatic 163, 164, 2, 1), none, none, some (.iadd, 0, 0, 0), some (.istore_n 2, 0, 0, 0), some (.iload_n 3, 0, 0, 0), some (.iload 5, 0, 0, 0), none, some (.ifCond .eq 24, 183, 0, 0)],
   [none, none, some (.iload_n 1, 0, 0, 0), some (.bipush 10, 0, 0, 0), none, some (.if_icmp .lt 18, 183, 0, 0), none, none, some (.iconst 1, 0, 0, 0), some (.aload_n 0, 0, 0, 0), some (.iload 4, 0, 0, 0), none, some (.iload_n 1, 0, 0, 0), some (.bipush 10, 0, 0, 0), none, some (.isub, 0, 0, 0)],
   [some (.invokevirtual 251, 203, 0, 2), none, none, some (.ishl, 0, 0, 0), some (.goto 4, 184, 0, 0), none, none, some (.iconst 0, 0, 0, 0), some (.ior, 0, 0, 0), some (.istore_n 3, 0, 0, 0), some (.iinc 4 1, 0, 0, 0), none, none, some (.goto (-165), 24, 0, 0)],
   [some (.iload_n 1, 0, 0, 0), some (.ifCond .ne 7, 200, 0, 0), none, none, some (.iload_n 2, 0, 0, 0), some (.goto 4, 201, 0, 0), none, none, some (.iload_n 3, 0, 0, 0), some (.ireturn, 0, 0, 0)]])
def m_215 : pm_M := (⟨"MoodTownModel", "crowd", "(II)I"⟩, prog_9_method_72_code, 8, (some .int), 7, 3, 5, 115, 0, 0,
  [[some (.iload_n 2, 0, 0, 0), some (.i2l, 0, 0, 0), some (.lconst 1, 0, 0, 0), some (.ldc2_w 243, 0, 0, 60), none, none, some (.invokestatic 98, 149, 2, 3), none, none, some (.ifCond .ne 5, 14, 0, 0), none, none, some (.iconst (-1), 0, 0, 0), some (.ireturn, 0, 0, 0), some (.aload_n 0, 0, 0, 0), some (.getfield 93, 7, 4, 0)],
   [none, none, some (.ifCond .ne 6, 24, 0, 0), none, none, some (.bipush (-2), 0, 0, 0), none, some (.ireturn, 0, 0, 0), some (.aload_n 0, 0, 0, 0), some (.invokevirtual 235, 172, 0, 0), none, none, some (.iload_n 1, 0, 0, 0), some (.istore_n 3, 0, 0, 0), some (.iconst 0, 0, 0, 0), some (.istore 4, 0, 0, 0)],
   [none, some (.iconst 0, 0, 0, 0), some (.istore 5, 0, 0, 0), none, some (.iload 5, 0, 0, 0), none, some (.iload_n 2, 0, 0, 0), some (.if_icmp .ge 99, 138, 0, 0), none, none, some (.iload_n 3, 0, 0, 0), some (.ldc_w 267, 0, 0, 1103515245), none, none, some (.imul, 0, 0, 0), some (.sipush 12345, 0, 0, 0)],
   [none, none, some (.iadd, 0, 0, 0), some (.istore_n 3, 0, 0, 0), some (.iload_n 3, 0, 0, 0), some (.bipush 16, 0, 0, 0), none, some (.ishr, 0, 0, 0), some (.sipush 32767, 0, 0, 0), none, none, some (.iand, 0, 0, 0), some (.aload_n 0, 0, 0, 0), some (.getfield 93, 7, 4, 0)],
   [some (.irem, 0, 0, 0), some (.istore 6, 0, 0, 0), none, some (.aload_n 0, 0, 0, 0), some (.getfield 26, 7, 21, 0), none, none, some (.iload 6, 0, 0, 0), none, some (.aload_n 0, 0, 0, 0), some (.getfield 26, 7, 21, 0), none, none, some (.iload 6, 0, 0, 0), none, some (.iaload, 0, 0, 0)],
   [some (.iconst 1, 0, 0, 0), some (.iadd, 0, 0, 0), some (.iconst 4, 0, 0, 0), some (.irem, 0, 0, 0), some (.iastore, 0, 0, 0), some (.aload_n 0, 0, 0, 0), some (.invokevirtual 217, 191, 0, 0), none, none, some (.pop, 0, 0, 0), some (.iconst 0, 0, 0, 0), some (.istore 7, 0, 0, 0), none, some (.iload 7, 0, 0, 0), none, some (.aload_n 0, 0, 0, 0)],
   [some (.getfield 93, 7, 4, 0), none, none, some (.if_icmp .ge 33, 132, 0, 0), none, none, some (.iload 4, 0, 0, 0), none, some (.aload_n 0, 0, 0, 0), some (.getfield 38, 7, 25, 0), none, none, some (.iload 7, 0, 0, 0), none, some (.iaload, 0, 0, 0), some (.iconst 4, 0, 0, 0)],
   [some (.if_icmp .eq 7, 119, 0, 0), none, none, some (.iconst 1, 0, 0, 0), some (.goto 4, 120, 0, 0), none, none, some (.iconst 0, 0, 0, 0), some (.invokestatic 163, 164, 2, 1), none, none, some (.iadd, 0, 0, 0), some (.istore 4, 0, 0, 0), none, some (.iinc 7 1, 0, 0, 0)],
   [none, some (.goto (-36), 93, 0, 0), none, none, some (.iinc 5 1, 0, 0, 0), none, none, some (.goto (-99), 36, 0, 0), none, none, some (.iload 4, 0, 0, 0), none, some (.ireturn, 0, 0, 0)]])
def m_216 : pm_M := (⟨"MoodTownModel", "keep", "(I)I"⟩, prog_9_method_74_code, 3, (some .int), 7, 2, 1, 25, 0, 0,
  [[some (.iload_n 1, 0, 0, 0), some (.i2l, 0, 0, 0), some (.lconst 0, 0, 0, 0), some (.lconst 1, 0, 0, 0), some (.invokestatic 98, 149, 2, 3), none, none, some (.ifCond .ne 5, 12, 0, 0), none, none, some (.iconst (-1), 0, 0, 0), some (.ireturn, 0, 0, 0), some (.aload_n 0, 0, 0, 0), some (.getfield 13, 7, 1, 0)],
   [some (.iload_n 1, 0, 0, 0), some (.baload, 0, 0, 0), some (.invokestatic 163, 164, 2, 1), none, none, some (.istore_n 2, 0, 0, 0), some (.aload_n 0, 0, 0, 0), some (.getfield 13, 7, 1, 0), none, none, some (.iload_n 1, 0, 0, 0), some (.iconst 1, 0, 0, 0), some (.bastore, 0, 0, 0), some (.aload_n 0, 0, 0, 0), some (.bipush 44, 0, 0, 0)],
   [some (.iload_n 1, 0, 0, 0), some (.iconst 1, 0, 0, 0), some (.iadd, 0, 0, 0), some (.imul, 0, 0, 0), some (.iconst 0, 0, 0, 0), some (.invokevirtual 268, 217, 0, 2), none, none, some (.iload_n 2, 0, 0, 0), some (.ireturn, 0, 0, 0)]])
def m_217 : pm_M := (⟨"MoodTownModel", "copies", "(II)V"⟩, prog_9_method_73_code, 4, none, 7, 3, 0, 0, 0, 0,
  [[some (.iconst 0, 0, 0, 0), some (.istore_n 3, 0, 0, 0), some (.iload_n 3, 0, 0, 0), some (.bipush 44, 0, 0, 0), none, some (.if_icmp .ge 25, 30, 0, 0), none, none, some (.aload_n 0, 0, 0, 0), some (.getfield 7, 7, 0, 0), none, none, some (.iload_n 1, 0, 0, 0), some (.iload_n 3, 0, 0, 0), some (.iadd, 0, 0, 0), some (.aload_n 0, 0, 0, 0)],
   [some (.getfield 7, 7, 0, 0), none, none, some (.iload_n 2, 0, 0, 0), some (.iload_n 3, 0, 0, 0), some (.iadd, 0, 0, 0), some (.iaload, 0, 0, 0), some (.iastore, 0, 0, 0), some (.iinc 3 1, 0, 0, 0), none, none, some (.goto (-25), 2, 0, 0), none, none, some (.return_, 0, 0, 0)]])
def m_218 : pm_M := (⟨"MoodTownModel", "back", "(I)I"⟩, prog_9_method_75_code, 2, (some .int), 7, 2, 1, 25, 0, 0,
  [[some (.iload_n 1, 0, 0, 0), some (.i2l, 0, 0, 0), some (.lconst 0, 0, 0, 0), some (.lconst 1, 0, 0, 0), some (.invokestatic 98, 149, 2, 3), none, none, some (.ifCond .ne 5, 12, 0, 0), none, none, some (.iconst (-1), 0, 0, 0), some (.ireturn, 0, 0, 0), some (.aload_n 0, 0, 0, 0), some (.getfield 13, 7, 1, 0)],
   [some (.iload_n 1, 0, 0, 0), some (.baload, 0, 0, 0), some (.ifCond .ne 6, 24, 0, 0), none, none, some (.bipush (-2), 0, 0, 0), none, some (.ireturn, 0, 0, 0), some (.aload_n 0, 0, 0, 0), some (.iconst 0, 0, 0, 0), some (.bipush 44, 0, 0, 0), none, some (.iload_n 1, 0, 0, 0), some (.iconst 1, 0, 0, 0), some (.iadd, 0, 0, 0), some (.imul, 0, 0, 0)],
   [some (.invokevirtual 268, 217, 0, 2), none, none, some (.aload_n 0, 0, 0, 0), some (.getfield 7, 7, 0, 0), none, none, some (.bipush 26, 0, 0, 0), none, some (.iaload, 0, 0, 0), some (.ireturn, 0, 0, 0)]])
def m_219 : pm_M := (⟨"MoodTownModel", "sheet", "(III)I"⟩, prog_9_method_77_code, 5, (some .int), 7, 4, 2, 46, 0, 0,
  [[some (.iload_n 1, 0, 0, 0), some (.iload_n 2, 0, 0, 0), some (.invokestatic 274, 220, 2, 2), none, none, some (.ifCond .eq 9, 14, 0, 0), none, none, some (.iload_n 3, 0, 0, 0), some (.bipush 40, 0, 0, 0), none, some (.if_icmp .le 5, 16, 0, 0), none, none, some (.iconst (-1), 0, 0, 0), some (.ireturn, 0, 0, 0)],
   [some (.iload_n 3, 0, 0, 0), some (.ifCond .ge 6, 23, 0, 0), none, none, some (.bipush (-14), 0, 0, 0), none, some (.ireturn, 0, 0, 0), some (.aload_n 0, 0, 0, 0), some (.getfield 50, 7, 30, 0), none, none, some (.iload_n 1, 0, 0, 0), some (.iload_n 2, 0, 0, 0), some (.iastore, 0, 0, 0), some (.aload_n 0, 0, 0, 0), some (.getfield 53, 7, 31, 0)],
   [none, none, some (.iload_n 1, 0, 0, 0), some (.iload_n 3, 0, 0, 0), some (.iastore, 0, 0, 0), some (.iconst 0, 0, 0, 0), some (.istore 4, 0, 0, 0), none, some (.iload 4, 0, 0, 0), none, some (.bipush 40, 0, 0, 0), none, some (.if_icmp .ge 22, 66, 0, 0), none, none, some (.aload_n 0, 0, 0, 0)],
   [some (.getfield 56, 7, 32, 0), none, none, some (.bipush 40, 0, 0, 0), none, some (.iload_n 1, 0, 0, 0), some (.imul, 0, 0, 0), some (.iload 4, 0, 0, 0), none, some (.iadd, 0, 0, 0), some (.iconst 0, 0, 0, 0), some (.iastore, 0, 0, 0), some (.iinc 4 1, 0, 0, 0), none, none, some (.goto (-23), 40, 0, 0)],
   [none, none, some (.iconst 1, 0, 0, 0), some (.ireturn, 0, 0, 0)]])
def m_220 : pm_M := (⟨"MoodTownModel", "isSheet", "(II)Z"⟩, prog_9_method_76_code, 2, (some .boolean), 7, 2, 1, 25, 0, 0,
  [[some (.iload_n 0, 0, 0, 0), some (.i2l, 0, 0, 0), some (.lconst 0, 0, 0, 0), some (.ldc2_w 230, 0, 0, 3), none, none, some (.invokestatic 98, 149, 2, 3), none, none, some (.ifCond .eq 19, 28, 0, 0), none, none, some (.iload_n 1, 0, 0, 0), some (.i2l, 0, 0, 0), some (.lconst 0, 0, 0, 0), some (.ldc2_w 272, 0, 0, 2)],
   [none, none, some (.invokestatic 98, 149, 2, 3), none, none, some (.ifCond .eq 7, 28, 0, 0), none, none, some (.iconst 1, 0, 0, 0), some (.goto 4, 29, 0, 0), none, none, some (.iconst 0, 0, 0, 0), some (.ireturn, 0, 0, 0)]])
def m_221 : pm_M := (⟨"MoodTownModel", "lay", "(III)I"⟩, prog_9_method_78_code, 4, (some .int), 7, 4, 2, 46, 0, 0,
  [[some (.iload_n 1, 0, 0, 0), some (.iconst 0, 0, 0, 0), some (.invokestatic 274, 220, 2, 2), none, none, some (.ifCond .ne 5, 10, 0, 0), none, none, some (.iconst (-1), 0, 0, 0), some (.ireturn, 0, 0, 0), some (.aload_n 0, 0, 0, 0), some (.getfield 50, 7, 30, 0), none, none, some (.iload_n 1, 0, 0, 0), some (.iaload, 0, 0, 0)],
   [some (.bipush (-4), 0, 0, 0), none, some (.if_icmp .ne 6, 24, 0, 0), none, none, some (.bipush (-11), 0, 0, 0), none, some (.ireturn, 0, 0, 0), some (.iload_n 2, 0, 0, 0), some (.i2l, 0, 0, 0), some (.lconst 0, 0, 0, 0), some (.aload_n 0, 0, 0, 0), some (.getfield 53, 7, 31, 0), none, none, some (.iload_n 1, 0, 0, 0)],
   [some (.iaload, 0, 0, 0), some (.iconst 1, 0, 0, 0), some (.isub, 0, 0, 0), some (.i2l, 0, 0, 0), some (.invokestatic 98, 149, 2, 3), none, none, some (.ifCond .ne 6, 45, 0, 0), none, none, some (.bipush (-12), 0, 0, 0), none, some (.ireturn, 0, 0, 0), some (.aload_n 0, 0, 0, 0), some (.getfield 56, 7, 32, 0)],
   [none, some (.bipush 40, 0, 0, 0), none, some (.iload_n 1, 0, 0, 0), some (.imul, 0, 0, 0), some (.iload_n 2, 0, 0, 0), some (.iadd, 0, 0, 0), some (.aload_n 0, 0, 0, 0), some (.getfield 50, 7, 30, 0), none, none, some (.iload_n 1, 0, 0, 0), some (.iaload, 0, 0, 0), some (.ifCond .ne 8, 69, 0, 0)],
   [some (.iload_n 3, 0, 0, 0), some (.i2b, 0, 0, 0), some (.goto 19, 85, 0, 0), none, none, some (.aload_n 0, 0, 0, 0), some (.getfield 50, 7, 30, 0), none, none, some (.iload_n 1, 0, 0, 0), some (.iaload, 0, 0, 0), some (.iconst 1, 0, 0, 0), some (.if_icmp .ne 8, 84, 0, 0), none, none, some (.iload_n 3, 0, 0, 0)],
   [some (.i2s, 0, 0, 0), some (.goto 4, 85, 0, 0), none, none, some (.iload_n 3, 0, 0, 0), some (.iastore, 0, 0, 0), some (.iconst 1, 0, 0, 0), some (.ireturn, 0, 0, 0)]])
def m_222 : pm_M := (⟨"MoodTownModel", "read", "(IIII)I"⟩, prog_9_method_79_code, 11, (some .int), 7, 5, 3, 68, 0, 0,
  [[some (.iload_n 1, 0, 0, 0), some (.iload_n 2, 0, 0, 0), some (.invokestatic 274, 220, 2, 2), none, none, some (.ifCond .eq 16, 21, 0, 0), none, none, some (.iload 4, 0, 0, 0), none, some (.i2l, 0, 0, 0), some (.lconst 0, 0, 0, 0), some (.ldc2_w 278, 0, 0, 20), none, none, some (.invokestatic 98, 149, 2, 3)],
   [none, none, some (.ifCond .ne 5, 23, 0, 0), none, none, some (.iconst (-1), 0, 0, 0), some (.ireturn, 0, 0, 0), some (.iconst 0, 0, 0, 0), some (.istore 5, 0, 0, 0), none, some (.iload 5, 0, 0, 0), none, some (.iconst 5, 0, 0, 0), some (.if_icmp .ge 25, 54, 0, 0)],
   [some (.aload_n 0, 0, 0, 0), some (.getfield 59, 7, 34, 0), none, none, some (.iload 5, 0, 0, 0), none, some (.aload_n 0, 0, 0, 0), some (.getfield 7, 7, 0, 0), none, none, some (.iconst 5, 0, 0, 0), some (.iload 5, 0, 0, 0), none, some (.iadd, 0, 0, 0), some (.iaload, 0, 0, 0), some (.iastore, 0, 0, 0)],
   [some (.iinc 5 1, 0, 0, 0), none, none, some (.goto (-25), 26, 0, 0), none, none, some (.iconst 0, 0, 0, 0), some (.istore 5, 0, 0, 0), none, some (.iconst 0, 0, 0, 0), some (.istore 6, 0, 0, 0), none, some (.iconst 0, 0, 0, 0), some (.istore 7, 0, 0, 0), none, some (.iload 7, 0, 0, 0)],
   [none, some (.iload 4, 0, 0, 0), none, some (.if_icmp .ge 185, 252, 0, 0), none, none, some (.iload 5, 0, 0, 0), none, some (.ifCond .ne 180, 252, 0, 0), none, none, some (.iconst 0, 0, 0, 0), some (.istore 8, 0, 0, 0), none, some (.iload 8, 0, 0, 0)],
   [some (.iconst 2, 0, 0, 0), some (.if_icmp .ge 84, 165, 0, 0), none, none, some (.iload 5, 0, 0, 0), none, some (.ifCond .ne 79, 165, 0, 0), none, none, some (.iload_n 3, 0, 0, 0), some (.i2l, 0, 0, 0), some (.iconst 2, 0, 0, 0), some (.iload 7, 0, 0, 0), none, some (.imul, 0, 0, 0), some (.i2l, 0, 0, 0)],
   [some (.ladd, 0, 0, 0), some (.iload 8, 0, 0, 0), none, some (.i2l, 0, 0, 0), some (.ladd, 0, 0, 0), some (.lstore 9, 0, 0, 0), none, some (.aload_n 0, 0, 0, 0), some (.getfield 50, 7, 30, 0), none, none, some (.iload_n 1, 0, 0, 0), some (.iaload, 0, 0, 0), some (.bipush (-4), 0, 0, 0), none, some (.if_icmp .ne 7, 118, 0, 0)],
   [none, none, some (.iconst 1, 0, 0, 0), some (.goto 42, 157, 0, 0), none, none, some (.aload_n 0, 0, 0, 0), some (.getfield 50, 7, 30, 0), none, none, some (.iload_n 1, 0, 0, 0), some (.iaload, 0, 0, 0), some (.iload_n 2, 0, 0, 0), some (.if_icmp .eq 7, 132, 0, 0)],
   [some (.iconst 3, 0, 0, 0), some (.goto 28, 157, 0, 0), none, none, some (.lload 9, 0, 0, 0), none, some (.lconst 0, 0, 0, 0), some (.lcmp, 0, 0, 0), some (.ifCond .lt 16, 152, 0, 0), none, none, some (.lload 9, 0, 0, 0), none, some (.aload_n 0, 0, 0, 0), some (.getfield 53, 7, 31, 0)],
   [none, some (.iload_n 1, 0, 0, 0), some (.iaload, 0, 0, 0), some (.i2l, 0, 0, 0), some (.lcmp, 0, 0, 0), some (.ifCond .lt 7, 156, 0, 0), none, none, some (.iconst 2, 0, 0, 0), some (.goto 4, 157, 0, 0), none, none, some (.iconst 0, 0, 0, 0), some (.istore 5, 0, 0, 0), none, some (.iinc 8 1, 0, 0, 0)],
   [none, none, some (.goto (-84), 78, 0, 0), none, none, some (.iload 5, 0, 0, 0), none, some (.ifCond .ne 79, 246, 0, 0), none, none, some (.bipush 40, 0, 0, 0), none, some (.iload_n 1, 0, 0, 0), some (.imul, 0, 0, 0), some (.iload_n 3, 0, 0, 0), some (.iadd, 0, 0, 0)],
   [some (.iconst 2, 0, 0, 0), some (.iload 7, 0, 0, 0), none, some (.imul, 0, 0, 0), some (.iadd, 0, 0, 0), some (.istore 8, 0, 0, 0), none, some (.aload_n 0, 0, 0, 0), some (.aload_n 0, 0, 0, 0), some (.getfield 56, 7, 32, 0), none, none, some (.iload 8, 0, 0, 0), none, some (.iaload, 0, 0, 0), some (.aload_n 0, 0, 0, 0)],
   [some (.getfield 56, 7, 32, 0), none, none, some (.iload 8, 0, 0, 0), none, some (.iconst 1, 0, 0, 0), some (.iadd, 0, 0, 0), some (.iaload, 0, 0, 0), some (.invokevirtual 280, 174, 0, 2), none, none, some (.ifCond .ge 40, 243, 0, 0), none, none, some (.iconst 0, 0, 0, 0), some (.istore 9, 0, 0, 0)],
   [none, some (.iload 9, 0, 0, 0), none, some (.iconst 5, 0, 0, 0), some (.if_icmp .ge 25, 237, 0, 0), none, none, some (.aload_n 0, 0, 0, 0), some (.getfield 7, 7, 0, 0), none, none, some (.iconst 5, 0, 0, 0), some (.iload 9, 0, 0, 0), none, some (.iadd, 0, 0, 0), some (.aload_n 0, 0, 0, 0)],
   [some (.getfield 59, 7, 34, 0), none, none, some (.iload 9, 0, 0, 0), none, some (.iaload, 0, 0, 0), some (.iastore, 0, 0, 0), some (.iinc 9 1, 0, 0, 0), none, none, some (.goto (-25), 209, 0, 0), none, none, some (.bipush (-20), 0, 0, 0), none, some (.iload 7, 0, 0, 0)],
   [none, some (.isub, 0, 0, 0), some (.ireturn, 0, 0, 0), some (.iinc 6 1, 0, 0, 0), none, none, some (.iinc 7 1, 0, 0, 0), none, none, some (.goto (-186), 63, 0, 0), none, none, some (.aload_n 0, 0, 0, 0), some (.iload 5, 0, 0, 0), none, some (.putfield 283, 7, 33, 0)],
   [none, none, some (.iload 6, 0, 0, 0), none, some (.ireturn, 0, 0, 0)]])
def m_223 : pm_M := (⟨"MoodTownModel", "torn", "()I"⟩, prog_9_method_80_code, 1, (some .int), 7, 1, 0, 0, 0, 0,
  [[some (.aload_n 0, 0, 0, 0), some (.getfield 283, 7, 33, 0), none, none, some (.ireturn, 0, 0, 0)]])
def m_224 : pm_M := (⟨"MoodTownModel", "count", "(I)I"⟩, prog_9_method_81_code, 4, (some .int), 7, 2, 2, 42, 0, 0,
  [[some (.aload_n 0, 0, 0, 0), some (.invokevirtual 235, 172, 0, 0), none, none, some (.iconst 0, 0, 0, 0), some (.istore_n 2, 0, 0, 0), some (.iconst 0, 0, 0, 0), some (.istore_n 3, 0, 0, 0), some (.iload_n 3, 0, 0, 0), some (.aload_n 0, 0, 0, 0), some (.getfield 93, 7, 4, 0), none, none, some (.if_icmp .ge 31, 44, 0, 0)],
   [some (.iload_n 2, 0, 0, 0), some (.aload_n 0, 0, 0, 0), some (.getfield 7, 7, 0, 0), none, none, some (.iconst 5, 0, 0, 0), some (.iload_n 3, 0, 0, 0), some (.iadd, 0, 0, 0), some (.iaload, 0, 0, 0), some (.ifCond .ne 7, 32, 0, 0), none, none, some (.iconst 1, 0, 0, 0), some (.goto 4, 33, 0, 0)],
   [some (.iconst 0, 0, 0, 0), some (.invokestatic 163, 164, 2, 1), none, none, some (.iadd, 0, 0, 0), some (.istore_n 2, 0, 0, 0), some (.iinc 3 1, 0, 0, 0), none, none, some (.goto (-33), 8, 0, 0), none, none, some (.iload_n 1, 0, 0, 0), some (.tableswitch 111 0 6 #[43, 48, 53, 61, 81, 86, 109], 0, 0, 0)],
   [],
   [],
   [none, none, none, none, none, none, none, none, some (.aload_n 0, 0, 0, 0), some (.invokevirtual 221, 197, 0, 0), none, none, some (.ireturn, 0, 0, 0), some (.aload_n 0, 0, 0, 0), some (.invokevirtual 224, 205, 0, 0)],
   [none, some (.ireturn, 0, 0, 0), some (.aload_n 0, 0, 0, 0), some (.getfield 7, 7, 0, 0), none, none, some (.bipush 27, 0, 0, 0), none, some (.iaload, 0, 0, 0), some (.ireturn, 0, 0, 0), some (.aload_n 0, 0, 0, 0), some (.getfield 13, 7, 1, 0), none, none, some (.iconst 0, 0, 0, 0), some (.baload, 0, 0, 0)],
   [some (.invokestatic 163, 164, 2, 1), none, none, some (.aload_n 0, 0, 0, 0), some (.getfield 13, 7, 1, 0), none, none, some (.iconst 1, 0, 0, 0), some (.baload, 0, 0, 0), some (.invokestatic 163, 164, 2, 1), none, none, some (.iadd, 0, 0, 0), some (.ireturn, 0, 0, 0), some (.aload_n 0, 0, 0, 0), some (.getfield 102, 7, 13, 0)],
   [none, none, some (.ireturn, 0, 0, 0), some (.aload_n 0, 0, 0, 0), some (.getfield 50, 7, 30, 0), none, none, some (.iconst 0, 0, 0, 0), some (.iaload, 0, 0, 0), some (.bipush (-4), 0, 0, 0), none, some (.if_icmp .ne 8, 147, 0, 0), none, none, some (.bipush (-4), 0, 0, 0)],
   [some (.goto 9, 153, 0, 0), none, none, some (.aload_n 0, 0, 0, 0), some (.getfield 53, 7, 31, 0), none, none, some (.iconst 0, 0, 0, 0), some (.iaload, 0, 0, 0), some (.ireturn, 0, 0, 0), some (.iload_n 2, 0, 0, 0), some (.ireturn, 0, 0, 0), some (.iconst (-1), 0, 0, 0), some (.ireturn, 0, 0, 0)]])
def pm_q0 : List pm_M := [m_0, m_1, m_2, m_3, m_4, m_5, m_6, m_7, m_8, m_9, m_10, m_11, m_12, m_13, m_14, m_15]
def pm_q1 : List pm_M := [m_16, m_17, m_18, m_19, m_20, m_21, m_22, m_23, m_24, m_25, m_26, m_27, m_28, m_29, m_30, m_31]
def pm_q2 : List pm_M := [m_32, m_33, m_34, m_35, m_36, m_37, m_38, m_39, m_40, m_41, m_42, m_43, m_44, m_45, m_46, m_47]
def pm_q3 : List pm_M := [m_48, m_49, m_50, m_51, m_52, m_53, m_54, m_55, m_56, m_57, m_58, m_59, m_60, m_61, m_62, m_63]
def pm_q4 : List pm_M := [m_64, m_65, m_66, m_67, m_68, m_69, m_70, m_71, m_72, m_73, m_74, m_75, m_76, m_77, m_78, m_79]
def pm_q5 : List pm_M := [m_80, m_81, m_82, m_83, m_84, m_85, m_86, m_87, m_88, m_89, m_90, m_91, m_92, m_93, m_94, m_95]
def pm_q6 : List pm_M := [m_96, m_97, m_98, m_99, m_100, m_101, m_102, m_103, m_104, m_105, m_106, m_107, m_108, m_109, m_110, m_111]
def pm_q7 : List pm_M := [m_112, m_113, m_114, m_115, m_116, m_117, m_118, m_119, m_120, m_121, m_122, m_123, m_124, m_125, m_126, m_127]
def pm_q8 : List pm_M := [m_128, m_129, m_130, m_131, m_132, m_133, m_134, m_135, m_136, m_137, m_138, m_139, m_140, m_141, m_142, m_143]
def pm_q9 : List pm_M := [m_144, m_145, m_146, m_147, m_148, m_149, m_150, m_151, m_152, m_153, m_154, m_155, m_156, m_157, m_158, m_159]
def pm_q10 : List pm_M := [m_160, m_161, m_162, m_163, m_164, m_165, m_166, m_167, m_168, m_169, m_170, m_171, m_172, m_173, m_174, m_175]
def pm_q11 : List pm_M := [m_176, m_177, m_178, m_179, m_180, m_181, m_182, m_183, m_184, m_185, m_186, m_187, m_188, m_189, m_190, m_191]
def pm_q12 : List pm_M := [m_192, m_193, m_194, m_195, m_196, m_197, m_198, m_199, m_200, m_201, m_202, m_203, m_204, m_205, m_206, m_207]
def pm_q13 : List pm_M := [m_208, m_209, m_210, m_211, m_212, m_213, m_214, m_215, m_216, m_217, m_218, m_219, m_220, m_221, m_222, m_223]
def pm_q14 : List pm_M := [m_224]
def pm_mt : List (List pm_M) := [pm_q0, pm_q1, pm_q2, pm_q3, pm_q4, pm_q5, pm_q6, pm_q7, pm_q8, pm_q9, pm_q10, pm_q11, pm_q12, pm_q13, pm_q14]
/-- the method of a number; the law (0) is called by nobody -/
def pm_m (M : Nat) : Option pm_M := if M = 0 then none else match pm_mt[M / 16]? with
  | some q => q[M % 16]?
  | none => none
end
section
/-! THE METHODS: their heads and links, by the places of the words (printed by wip/gen/gen10.py). -/
def pm_hk (kind : Nat) (m2 : pm_M) : Prop := match kind with
  | 0 => pm_hd m2 (pm_n m2 - 1) ∧ Cond.instanceMethod (pm_y m2) ∈ lw_gt ∧ Cond.selects (pm_y m2).cls (pm_y m2) (pm_y m2) ∈ lw_gt ∧ kN (pm_o m2) = (pm_y m2).cls ∧ pm_o m2 < 8
  | 1 => pm_hd m2 (pm_n m2 - 1) ∧ Cond.instanceMethod (pm_y m2) ∈ lw_gt ∧ (pm_y m2).name = "<init>" ∧ pm_rt m2 = none
  | _ => pm_hd m2 (pm_n m2) ∧ Cond.static (pm_y m2) ∈ lw_gt
set_option maxRecDepth 100000 in
theorem hk_1 : pm_hk 1 m_1 := ⟨⟨lw_gi 79 rfl rfl, lw_gi 59 rfl rfl, by decide +kernel, by decide +kernel, by decide +kernel⟩, lw_gi 78 rfl rfl, rfl, rfl⟩
set_option maxRecDepth 100000 in
theorem hk_2 : pm_hk 1 m_2 := ⟨⟨lw_gi 87 rfl rfl, lw_gi 60 rfl rfl, by decide +kernel, by decide +kernel, by decide +kernel⟩, lw_gi 86 rfl rfl, rfl, rfl⟩
set_option maxRecDepth 100000 in
theorem hk_3 : pm_hk 1 m_3 := ⟨⟨lw_gi 118 rfl rfl, lw_gi 61 rfl rfl, by decide +kernel, by decide +kernel, by decide +kernel⟩, lw_gi 117 rfl rfl, rfl, rfl⟩
set_option maxRecDepth 100000 in
theorem hk_4 : pm_hk 1 m_4 := ⟨⟨lw_gi 124 rfl rfl, lw_gi 62 rfl rfl, by decide +kernel, by decide +kernel, by decide +kernel⟩, lw_gi 123 rfl rfl, rfl, rfl⟩
set_option maxRecDepth 100000 in
theorem hk_5 : pm_hk 0 m_5 := ⟨⟨lw_gi 129 rfl rfl, lw_gi 62 rfl rfl, by decide +kernel, by decide +kernel, by decide +kernel⟩, lw_gi 127 rfl rfl, lw_gi 128 rfl rfl, rfl, by decide⟩
set_option maxRecDepth 100000 in
theorem hk_6 : pm_hk 2 m_6 := ⟨⟨lw_gi 132 rfl rfl, lw_gi 63 rfl rfl, by decide +kernel, by decide +kernel, by decide +kernel⟩, lw_gi 131 rfl rfl⟩
set_option maxRecDepth 100000 in
theorem hk_7 : pm_hk 1 m_7 := ⟨⟨lw_gi 251 rfl rfl, lw_gi 64 rfl rfl, by decide +kernel, by decide +kernel, by decide +kernel⟩, lw_gi 250 rfl rfl, rfl, rfl⟩
set_option maxRecDepth 100000 in
theorem hk_8 : pm_hk 1 m_8 := ⟨⟨lw_gi 284 rfl rfl, lw_gi 65 rfl rfl, by decide +kernel, by decide +kernel, by decide +kernel⟩, lw_gi 283 rfl rfl, rfl, rfl⟩
set_option maxRecDepth 100000 in
theorem hk_9 : pm_hk 1 m_9 := ⟨⟨lw_gi 305 rfl rfl, lw_gi 66 rfl rfl, by decide +kernel, by decide +kernel, by decide +kernel⟩, lw_gi 304 rfl rfl, rfl, rfl⟩
set_option maxRecDepth 100000 in
theorem hk_10 : pm_hk 0 m_10 := ⟨⟨lw_gi 350 rfl rfl, lw_gi 59 rfl rfl, by decide +kernel, by decide +kernel, by decide +kernel⟩, lw_gi 348 rfl rfl, lw_gi 349 rfl rfl, rfl, by decide⟩
set_option maxRecDepth 100000 in
theorem hk_11 : pm_hk 0 m_11 := ⟨⟨lw_gi 354 rfl rfl, lw_gi 60 rfl rfl, by decide +kernel, by decide +kernel, by decide +kernel⟩, lw_gi 352 rfl rfl, lw_gi 353 rfl rfl, rfl, by decide⟩
set_option maxRecDepth 100000 in
theorem hk_12 : pm_hk 0 m_12 := ⟨⟨lw_gi 358 rfl rfl, lw_gi 59 rfl rfl, by decide +kernel, by decide +kernel, by decide +kernel⟩, lw_gi 356 rfl rfl, lw_gi 357 rfl rfl, rfl, by decide⟩
set_option maxRecDepth 100000 in
theorem hk_13 : pm_hk 0 m_13 := ⟨⟨lw_gi 362 rfl rfl, lw_gi 59 rfl rfl, by decide +kernel, by decide +kernel, by decide +kernel⟩, lw_gi 360 rfl rfl, lw_gi 361 rfl rfl, rfl, by decide⟩
set_option maxRecDepth 100000 in
theorem hk_14 : pm_hk 0 m_14 := ⟨⟨lw_gi 366 rfl rfl, lw_gi 61 rfl rfl, by decide +kernel, by decide +kernel, by decide +kernel⟩, lw_gi 364 rfl rfl, lw_gi 365 rfl rfl, rfl, by decide⟩
set_option maxRecDepth 100000 in
theorem hk_15 : pm_hk 0 m_15 := ⟨⟨lw_gi 371 rfl rfl, lw_gi 60 rfl rfl, by decide +kernel, by decide +kernel, by decide +kernel⟩, lw_gi 369 rfl rfl, lw_gi 370 rfl rfl, rfl, by decide⟩
set_option maxRecDepth 100000 in
theorem hk_16 : pm_hk 0 m_16 := ⟨⟨lw_gi 375 rfl rfl, lw_gi 60 rfl rfl, by decide +kernel, by decide +kernel, by decide +kernel⟩, lw_gi 373 rfl rfl, lw_gi 374 rfl rfl, rfl, by decide⟩
set_option maxRecDepth 100000 in
theorem hk_17 : pm_hk 2 m_17 := ⟨⟨lw_gi 378 rfl rfl, lw_gi 60 rfl rfl, by decide +kernel, by decide +kernel, by decide +kernel⟩, lw_gi 377 rfl rfl⟩
set_option maxRecDepth 100000 in
theorem hk_18 : pm_hk 0 m_18 := ⟨⟨lw_gi 382 rfl rfl, lw_gi 60 rfl rfl, by decide +kernel, by decide +kernel, by decide +kernel⟩, lw_gi 381 rfl rfl, lw_gi 0 rfl rfl, rfl, by decide⟩
set_option maxRecDepth 100000 in
theorem hk_19 : pm_hk 0 m_19 := ⟨⟨lw_gi 386 rfl rfl, lw_gi 61 rfl rfl, by decide +kernel, by decide +kernel, by decide +kernel⟩, lw_gi 385 rfl rfl, lw_gi 1 rfl rfl, rfl, by decide⟩
set_option maxRecDepth 100000 in
theorem hk_20 : pm_hk 0 m_20 := ⟨⟨lw_gi 390 rfl rfl, lw_gi 61 rfl rfl, by decide +kernel, by decide +kernel, by decide +kernel⟩, lw_gi 389 rfl rfl, lw_gi 2 rfl rfl, rfl, by decide⟩
set_option maxRecDepth 100000 in
theorem hk_21 : pm_hk 0 m_21 := ⟨⟨lw_gi 395 rfl rfl, lw_gi 60 rfl rfl, by decide +kernel, by decide +kernel, by decide +kernel⟩, lw_gi 393 rfl rfl, lw_gi 394 rfl rfl, rfl, by decide⟩
set_option maxRecDepth 100000 in
theorem hk_22 : pm_hk 0 m_22 := ⟨⟨lw_gi 447 rfl rfl, lw_gi 61 rfl rfl, by decide +kernel, by decide +kernel, by decide +kernel⟩, lw_gi 446 rfl rfl, lw_gi 3 rfl rfl, rfl, by decide⟩
set_option maxRecDepth 100000 in
theorem hk_23 : pm_hk 0 m_23 := ⟨⟨lw_gi 451 rfl rfl, lw_gi 61 rfl rfl, by decide +kernel, by decide +kernel, by decide +kernel⟩, lw_gi 450 rfl rfl, lw_gi 4 rfl rfl, rfl, by decide⟩
set_option maxRecDepth 100000 in
theorem hk_24 : pm_hk 0 m_24 := ⟨⟨lw_gi 455 rfl rfl, lw_gi 61 rfl rfl, by decide +kernel, by decide +kernel, by decide +kernel⟩, lw_gi 454 rfl rfl, lw_gi 5 rfl rfl, rfl, by decide⟩
set_option maxRecDepth 100000 in
theorem hk_25 : pm_hk 0 m_25 := ⟨⟨lw_gi 459 rfl rfl, lw_gi 61 rfl rfl, by decide +kernel, by decide +kernel, by decide +kernel⟩, lw_gi 458 rfl rfl, lw_gi 6 rfl rfl, rfl, by decide⟩
set_option maxRecDepth 100000 in
theorem hk_26 : pm_hk 0 m_26 := ⟨⟨lw_gi 464 rfl rfl, lw_gi 61 rfl rfl, by decide +kernel, by decide +kernel, by decide +kernel⟩, lw_gi 463 rfl rfl, lw_gi 7 rfl rfl, rfl, by decide⟩
set_option maxRecDepth 100000 in
theorem hk_27 : pm_hk 0 m_27 := ⟨⟨lw_gi 468 rfl rfl, lw_gi 61 rfl rfl, by decide +kernel, by decide +kernel, by decide +kernel⟩, lw_gi 467 rfl rfl, lw_gi 8 rfl rfl, rfl, by decide⟩
set_option maxRecDepth 100000 in
theorem hk_28 : pm_hk 0 m_28 := ⟨⟨lw_gi 472 rfl rfl, lw_gi 62 rfl rfl, by decide +kernel, by decide +kernel, by decide +kernel⟩, lw_gi 470 rfl rfl, lw_gi 471 rfl rfl, rfl, by decide⟩
set_option maxRecDepth 100000 in
theorem hk_29 : pm_hk 0 m_29 := ⟨⟨lw_gi 476 rfl rfl, lw_gi 62 rfl rfl, by decide +kernel, by decide +kernel, by decide +kernel⟩, lw_gi 474 rfl rfl, lw_gi 475 rfl rfl, rfl, by decide⟩
set_option maxRecDepth 100000 in
theorem hk_30 : pm_hk 0 m_30 := ⟨⟨lw_gi 480 rfl rfl, lw_gi 62 rfl rfl, by decide +kernel, by decide +kernel, by decide +kernel⟩, lw_gi 478 rfl rfl, lw_gi 479 rfl rfl, rfl, by decide⟩
set_option maxRecDepth 100000 in
theorem hk_31 : pm_hk 0 m_31 := ⟨⟨lw_gi 485 rfl rfl, lw_gi 61 rfl rfl, by decide +kernel, by decide +kernel, by decide +kernel⟩, lw_gi 484 rfl rfl, lw_gi 9 rfl rfl, rfl, by decide⟩
set_option maxRecDepth 100000 in
theorem hk_32 : pm_hk 0 m_32 := ⟨⟨lw_gi 489 rfl rfl, lw_gi 62 rfl rfl, by decide +kernel, by decide +kernel, by decide +kernel⟩, lw_gi 487 rfl rfl, lw_gi 488 rfl rfl, rfl, by decide⟩
set_option maxRecDepth 100000 in
theorem hk_33 : pm_hk 0 m_33 := ⟨⟨lw_gi 495 rfl rfl, lw_gi 61 rfl rfl, by decide +kernel, by decide +kernel, by decide +kernel⟩, lw_gi 494 rfl rfl, lw_gi 10 rfl rfl, rfl, by decide⟩
set_option maxRecDepth 100000 in
theorem hk_34 : pm_hk 0 m_34 := ⟨⟨lw_gi 500 rfl rfl, lw_gi 61 rfl rfl, by decide +kernel, by decide +kernel, by decide +kernel⟩, lw_gi 499 rfl rfl, lw_gi 11 rfl rfl, rfl, by decide⟩
set_option maxRecDepth 100000 in
theorem hk_35 : pm_hk 0 m_35 := ⟨⟨lw_gi 505 rfl rfl, lw_gi 61 rfl rfl, by decide +kernel, by decide +kernel, by decide +kernel⟩, lw_gi 504 rfl rfl, lw_gi 12 rfl rfl, rfl, by decide⟩
set_option maxRecDepth 100000 in
theorem hk_36 : pm_hk 0 m_36 := ⟨⟨lw_gi 509 rfl rfl, lw_gi 61 rfl rfl, by decide +kernel, by decide +kernel, by decide +kernel⟩, lw_gi 508 rfl rfl, lw_gi 13 rfl rfl, rfl, by decide⟩
set_option maxRecDepth 100000 in
theorem hk_37 : pm_hk 0 m_37 := ⟨⟨lw_gi 513 rfl rfl, lw_gi 61 rfl rfl, by decide +kernel, by decide +kernel, by decide +kernel⟩, lw_gi 512 rfl rfl, lw_gi 14 rfl rfl, rfl, by decide⟩
set_option maxRecDepth 100000 in
theorem hk_38 : pm_hk 0 m_38 := ⟨⟨lw_gi 517 rfl rfl, lw_gi 62 rfl rfl, by decide +kernel, by decide +kernel, by decide +kernel⟩, lw_gi 515 rfl rfl, lw_gi 516 rfl rfl, rfl, by decide⟩
set_option maxRecDepth 100000 in
theorem hk_39 : pm_hk 0 m_39 := ⟨⟨lw_gi 521 rfl rfl, lw_gi 62 rfl rfl, by decide +kernel, by decide +kernel, by decide +kernel⟩, lw_gi 519 rfl rfl, lw_gi 520 rfl rfl, rfl, by decide⟩
set_option maxRecDepth 100000 in
theorem hk_40 : pm_hk 0 m_40 := ⟨⟨lw_gi 525 rfl rfl, lw_gi 62 rfl rfl, by decide +kernel, by decide +kernel, by decide +kernel⟩, lw_gi 523 rfl rfl, lw_gi 524 rfl rfl, rfl, by decide⟩
set_option maxRecDepth 100000 in
theorem hk_41 : pm_hk 0 m_41 := ⟨⟨lw_gi 530 rfl rfl, lw_gi 62 rfl rfl, by decide +kernel, by decide +kernel, by decide +kernel⟩, lw_gi 528 rfl rfl, lw_gi 529 rfl rfl, rfl, by decide⟩
set_option maxRecDepth 100000 in
theorem hk_42 : pm_hk 0 m_42 := ⟨⟨lw_gi 534 rfl rfl, lw_gi 62 rfl rfl, by decide +kernel, by decide +kernel, by decide +kernel⟩, lw_gi 532 rfl rfl, lw_gi 533 rfl rfl, rfl, by decide⟩
set_option maxRecDepth 100000 in
theorem hk_43 : pm_hk 0 m_43 := ⟨⟨lw_gi 541 rfl rfl, lw_gi 59 rfl rfl, by decide +kernel, by decide +kernel, by decide +kernel⟩, lw_gi 539 rfl rfl, lw_gi 540 rfl rfl, rfl, by decide⟩
set_option maxRecDepth 100000 in
theorem hk_44 : pm_hk 0 m_44 := ⟨⟨lw_gi 545 rfl rfl, lw_gi 59 rfl rfl, by decide +kernel, by decide +kernel, by decide +kernel⟩, lw_gi 543 rfl rfl, lw_gi 544 rfl rfl, rfl, by decide⟩
set_option maxRecDepth 100000 in
theorem hk_45 : pm_hk 0 m_45 := ⟨⟨lw_gi 549 rfl rfl, lw_gi 59 rfl rfl, by decide +kernel, by decide +kernel, by decide +kernel⟩, lw_gi 547 rfl rfl, lw_gi 548 rfl rfl, rfl, by decide⟩
set_option maxRecDepth 100000 in
theorem hk_46 : pm_hk 0 m_46 := ⟨⟨lw_gi 554 rfl rfl, lw_gi 59 rfl rfl, by decide +kernel, by decide +kernel, by decide +kernel⟩, lw_gi 552 rfl rfl, lw_gi 553 rfl rfl, rfl, by decide⟩
set_option maxRecDepth 100000 in
theorem hk_47 : pm_hk 0 m_47 := ⟨⟨lw_gi 560 rfl rfl, lw_gi 59 rfl rfl, by decide +kernel, by decide +kernel, by decide +kernel⟩, lw_gi 558 rfl rfl, lw_gi 559 rfl rfl, rfl, by decide⟩
set_option maxRecDepth 100000 in
theorem hk_48 : pm_hk 2 m_48 := ⟨⟨lw_gi 563 rfl rfl, lw_gi 59 rfl rfl, by decide +kernel, by decide +kernel, by decide +kernel⟩, lw_gi 562 rfl rfl⟩
set_option maxRecDepth 100000 in
theorem hk_49 : pm_hk 0 m_49 := ⟨⟨lw_gi 567 rfl rfl, lw_gi 59 rfl rfl, by decide +kernel, by decide +kernel, by decide +kernel⟩, lw_gi 565 rfl rfl, lw_gi 566 rfl rfl, rfl, by decide⟩
set_option maxRecDepth 100000 in
theorem hk_50 : pm_hk 0 m_50 := ⟨⟨lw_gi 571 rfl rfl, lw_gi 62 rfl rfl, by decide +kernel, by decide +kernel, by decide +kernel⟩, lw_gi 569 rfl rfl, lw_gi 570 rfl rfl, rfl, by decide⟩
set_option maxRecDepth 100000 in
theorem hk_51 : pm_hk 0 m_51 := ⟨⟨lw_gi 576 rfl rfl, lw_gi 59 rfl rfl, by decide +kernel, by decide +kernel, by decide +kernel⟩, lw_gi 574 rfl rfl, lw_gi 575 rfl rfl, rfl, by decide⟩
set_option maxRecDepth 100000 in
theorem hk_52 : pm_hk 0 m_52 := ⟨⟨lw_gi 580 rfl rfl, lw_gi 59 rfl rfl, by decide +kernel, by decide +kernel, by decide +kernel⟩, lw_gi 578 rfl rfl, lw_gi 579 rfl rfl, rfl, by decide⟩
set_option maxRecDepth 100000 in
theorem hk_53 : pm_hk 0 m_53 := ⟨⟨lw_gi 584 rfl rfl, lw_gi 59 rfl rfl, by decide +kernel, by decide +kernel, by decide +kernel⟩, lw_gi 582 rfl rfl, lw_gi 583 rfl rfl, rfl, by decide⟩
set_option maxRecDepth 100000 in
theorem hk_54 : pm_hk 0 m_54 := ⟨⟨lw_gi 589 rfl rfl, lw_gi 59 rfl rfl, by decide +kernel, by decide +kernel, by decide +kernel⟩, lw_gi 587 rfl rfl, lw_gi 588 rfl rfl, rfl, by decide⟩
set_option maxRecDepth 100000 in
theorem hk_55 : pm_hk 0 m_55 := ⟨⟨lw_gi 593 rfl rfl, lw_gi 59 rfl rfl, by decide +kernel, by decide +kernel, by decide +kernel⟩, lw_gi 591 rfl rfl, lw_gi 592 rfl rfl, rfl, by decide⟩
set_option maxRecDepth 100000 in
theorem hk_56 : pm_hk 0 m_56 := ⟨⟨lw_gi 597 rfl rfl, lw_gi 59 rfl rfl, by decide +kernel, by decide +kernel, by decide +kernel⟩, lw_gi 595 rfl rfl, lw_gi 596 rfl rfl, rfl, by decide⟩
set_option maxRecDepth 100000 in
theorem hk_57 : pm_hk 2 m_57 := ⟨⟨lw_gi 600 rfl rfl, lw_gi 59 rfl rfl, by decide +kernel, by decide +kernel, by decide +kernel⟩, lw_gi 599 rfl rfl⟩
set_option maxRecDepth 100000 in
theorem hk_58 : pm_hk 0 m_58 := ⟨⟨lw_gi 604 rfl rfl, lw_gi 64 rfl rfl, by decide +kernel, by decide +kernel, by decide +kernel⟩, lw_gi 602 rfl rfl, lw_gi 603 rfl rfl, rfl, by decide⟩
set_option maxRecDepth 100000 in
theorem hk_59 : pm_hk 0 m_59 := ⟨⟨lw_gi 608 rfl rfl, lw_gi 62 rfl rfl, by decide +kernel, by decide +kernel, by decide +kernel⟩, lw_gi 606 rfl rfl, lw_gi 607 rfl rfl, rfl, by decide⟩
set_option maxRecDepth 100000 in
theorem hk_60 : pm_hk 0 m_60 := ⟨⟨lw_gi 612 rfl rfl, lw_gi 62 rfl rfl, by decide +kernel, by decide +kernel, by decide +kernel⟩, lw_gi 610 rfl rfl, lw_gi 611 rfl rfl, rfl, by decide⟩
set_option maxRecDepth 100000 in
theorem hk_61 : pm_hk 0 m_61 := ⟨⟨lw_gi 616 rfl rfl, lw_gi 64 rfl rfl, by decide +kernel, by decide +kernel, by decide +kernel⟩, lw_gi 615 rfl rfl, lw_gi 15 rfl rfl, rfl, by decide⟩
set_option maxRecDepth 100000 in
theorem hk_62 : pm_hk 2 m_62 := ⟨⟨lw_gi 619 rfl rfl, lw_gi 73 rfl rfl, by decide +kernel, by decide +kernel, by decide +kernel⟩, lw_gi 618 rfl rfl⟩
set_option maxRecDepth 100000 in
theorem hk_63 : pm_hk 2 m_63 := ⟨⟨lw_gi 622 rfl rfl, lw_gi 74 rfl rfl, by decide +kernel, by decide +kernel, by decide +kernel⟩, lw_gi 621 rfl rfl⟩
set_option maxRecDepth 100000 in
theorem hk_64 : pm_hk 2 m_64 := ⟨⟨lw_gi 625 rfl rfl, lw_gi 64 rfl rfl, by decide +kernel, by decide +kernel, by decide +kernel⟩, lw_gi 624 rfl rfl⟩
set_option maxRecDepth 100000 in
theorem hk_65 : pm_hk 0 m_65 := ⟨⟨lw_gi 629 rfl rfl, lw_gi 59 rfl rfl, by decide +kernel, by decide +kernel, by decide +kernel⟩, lw_gi 627 rfl rfl, lw_gi 628 rfl rfl, rfl, by decide⟩
set_option maxRecDepth 100000 in
theorem hk_66 : pm_hk 0 m_66 := ⟨⟨lw_gi 633 rfl rfl, lw_gi 59 rfl rfl, by decide +kernel, by decide +kernel, by decide +kernel⟩, lw_gi 631 rfl rfl, lw_gi 632 rfl rfl, rfl, by decide⟩
set_option maxRecDepth 100000 in
theorem hk_67 : pm_hk 0 m_67 := ⟨⟨lw_gi 637 rfl rfl, lw_gi 65 rfl rfl, by decide +kernel, by decide +kernel, by decide +kernel⟩, lw_gi 635 rfl rfl, lw_gi 636 rfl rfl, rfl, by decide⟩
set_option maxRecDepth 100000 in
theorem hk_68 : pm_hk 0 m_68 := ⟨⟨lw_gi 642 rfl rfl, lw_gi 64 rfl rfl, by decide +kernel, by decide +kernel, by decide +kernel⟩, lw_gi 640 rfl rfl, lw_gi 641 rfl rfl, rfl, by decide⟩
set_option maxRecDepth 100000 in
theorem hk_69 : pm_hk 0 m_69 := ⟨⟨lw_gi 647 rfl rfl, lw_gi 64 rfl rfl, by decide +kernel, by decide +kernel, by decide +kernel⟩, lw_gi 646 rfl rfl, lw_gi 16 rfl rfl, rfl, by decide⟩
set_option maxRecDepth 100000 in
theorem hk_70 : pm_hk 0 m_70 := ⟨⟨lw_gi 651 rfl rfl, lw_gi 64 rfl rfl, by decide +kernel, by decide +kernel, by decide +kernel⟩, lw_gi 650 rfl rfl, lw_gi 17 rfl rfl, rfl, by decide⟩
set_option maxRecDepth 100000 in
theorem hk_71 : pm_hk 0 m_71 := ⟨⟨lw_gi 655 rfl rfl, lw_gi 64 rfl rfl, by decide +kernel, by decide +kernel, by decide +kernel⟩, lw_gi 654 rfl rfl, lw_gi 18 rfl rfl, rfl, by decide⟩
set_option maxRecDepth 100000 in
theorem hk_72 : pm_hk 2 m_72 := ⟨⟨lw_gi 658 rfl rfl, lw_gi 59 rfl rfl, by decide +kernel, by decide +kernel, by decide +kernel⟩, lw_gi 657 rfl rfl⟩
set_option maxRecDepth 100000 in
theorem hk_73 : pm_hk 0 m_73 := ⟨⟨lw_gi 662 rfl rfl, lw_gi 64 rfl rfl, by decide +kernel, by decide +kernel, by decide +kernel⟩, lw_gi 660 rfl rfl, lw_gi 661 rfl rfl, rfl, by decide⟩
set_option maxRecDepth 100000 in
theorem hk_74 : pm_hk 0 m_74 := ⟨⟨lw_gi 666 rfl rfl, lw_gi 59 rfl rfl, by decide +kernel, by decide +kernel, by decide +kernel⟩, lw_gi 664 rfl rfl, lw_gi 665 rfl rfl, rfl, by decide⟩
set_option maxRecDepth 100000 in
theorem hk_75 : pm_hk 0 m_75 := ⟨⟨lw_gi 671 rfl rfl, lw_gi 59 rfl rfl, by decide +kernel, by decide +kernel, by decide +kernel⟩, lw_gi 669 rfl rfl, lw_gi 670 rfl rfl, rfl, by decide⟩
set_option maxRecDepth 100000 in
theorem hk_76 : pm_hk 0 m_76 := ⟨⟨lw_gi 675 rfl rfl, lw_gi 64 rfl rfl, by decide +kernel, by decide +kernel, by decide +kernel⟩, lw_gi 673 rfl rfl, lw_gi 674 rfl rfl, rfl, by decide⟩
set_option maxRecDepth 100000 in
theorem hk_77 : pm_hk 0 m_77 := ⟨⟨lw_gi 680 rfl rfl, lw_gi 64 rfl rfl, by decide +kernel, by decide +kernel, by decide +kernel⟩, lw_gi 678 rfl rfl, lw_gi 679 rfl rfl, rfl, by decide⟩
set_option maxRecDepth 100000 in
theorem hk_78 : pm_hk 0 m_78 := ⟨⟨lw_gi 684 rfl rfl, lw_gi 62 rfl rfl, by decide +kernel, by decide +kernel, by decide +kernel⟩, lw_gi 682 rfl rfl, lw_gi 683 rfl rfl, rfl, by decide⟩
set_option maxRecDepth 100000 in
theorem hk_79 : pm_hk 0 m_79 := ⟨⟨lw_gi 688 rfl rfl, lw_gi 59 rfl rfl, by decide +kernel, by decide +kernel, by decide +kernel⟩, lw_gi 686 rfl rfl, lw_gi 687 rfl rfl, rfl, by decide⟩
set_option maxRecDepth 100000 in
theorem hk_80 : pm_hk 0 m_80 := ⟨⟨lw_gi 692 rfl rfl, lw_gi 65 rfl rfl, by decide +kernel, by decide +kernel, by decide +kernel⟩, lw_gi 690 rfl rfl, lw_gi 691 rfl rfl, rfl, by decide⟩
set_option maxRecDepth 100000 in
theorem hk_81 : pm_hk 0 m_81 := ⟨⟨lw_gi 697 rfl rfl, lw_gi 59 rfl rfl, by decide +kernel, by decide +kernel, by decide +kernel⟩, lw_gi 695 rfl rfl, lw_gi 696 rfl rfl, rfl, by decide⟩
set_option maxRecDepth 100000 in
theorem hk_82 : pm_hk 0 m_82 := ⟨⟨lw_gi 701 rfl rfl, lw_gi 65 rfl rfl, by decide +kernel, by decide +kernel, by decide +kernel⟩, lw_gi 699 rfl rfl, lw_gi 700 rfl rfl, rfl, by decide⟩
set_option maxRecDepth 100000 in
theorem hk_83 : pm_hk 0 m_83 := ⟨⟨lw_gi 705 rfl rfl, lw_gi 65 rfl rfl, by decide +kernel, by decide +kernel, by decide +kernel⟩, lw_gi 704 rfl rfl, lw_gi 19 rfl rfl, rfl, by decide⟩
set_option maxRecDepth 100000 in
theorem hk_84 : pm_hk 0 m_84 := ⟨⟨lw_gi 710 rfl rfl, lw_gi 59 rfl rfl, by decide +kernel, by decide +kernel, by decide +kernel⟩, lw_gi 708 rfl rfl, lw_gi 709 rfl rfl, rfl, by decide⟩
set_option maxRecDepth 100000 in
theorem hk_85 : pm_hk 0 m_85 := ⟨⟨lw_gi 714 rfl rfl, lw_gi 65 rfl rfl, by decide +kernel, by decide +kernel, by decide +kernel⟩, lw_gi 712 rfl rfl, lw_gi 713 rfl rfl, rfl, by decide⟩
set_option maxRecDepth 100000 in
theorem hk_86 : pm_hk 0 m_86 := ⟨⟨lw_gi 718 rfl rfl, lw_gi 62 rfl rfl, by decide +kernel, by decide +kernel, by decide +kernel⟩, lw_gi 716 rfl rfl, lw_gi 717 rfl rfl, rfl, by decide⟩
set_option maxRecDepth 100000 in
theorem hk_87 : pm_hk 2 m_87 := ⟨⟨lw_gi 722 rfl rfl, lw_gi 65 rfl rfl, by decide +kernel, by decide +kernel, by decide +kernel⟩, lw_gi 721 rfl rfl⟩
set_option maxRecDepth 100000 in
theorem hk_88 : pm_hk 2 m_88 := ⟨⟨lw_gi 725 rfl rfl, lw_gi 65 rfl rfl, by decide +kernel, by decide +kernel, by decide +kernel⟩, lw_gi 724 rfl rfl⟩
set_option maxRecDepth 100000 in
theorem hk_89 : pm_hk 0 m_89 := ⟨⟨lw_gi 729 rfl rfl, lw_gi 59 rfl rfl, by decide +kernel, by decide +kernel, by decide +kernel⟩, lw_gi 727 rfl rfl, lw_gi 728 rfl rfl, rfl, by decide⟩
set_option maxRecDepth 100000 in
theorem hk_90 : pm_hk 2 m_90 := ⟨⟨lw_gi 732 rfl rfl, lw_gi 59 rfl rfl, by decide +kernel, by decide +kernel, by decide +kernel⟩, lw_gi 731 rfl rfl⟩
set_option maxRecDepth 100000 in
theorem hk_91 : pm_hk 0 m_91 := ⟨⟨lw_gi 736 rfl rfl, lw_gi 59 rfl rfl, by decide +kernel, by decide +kernel, by decide +kernel⟩, lw_gi 735 rfl rfl, lw_gi 20 rfl rfl, rfl, by decide⟩
set_option maxRecDepth 100000 in
theorem hk_92 : pm_hk 0 m_92 := ⟨⟨lw_gi 740 rfl rfl, lw_gi 65 rfl rfl, by decide +kernel, by decide +kernel, by decide +kernel⟩, lw_gi 738 rfl rfl, lw_gi 739 rfl rfl, rfl, by decide⟩
set_option maxRecDepth 100000 in
theorem hk_93 : pm_hk 2 m_93 := ⟨⟨lw_gi 743 rfl rfl, lw_gi 59 rfl rfl, by decide +kernel, by decide +kernel, by decide +kernel⟩, lw_gi 742 rfl rfl⟩
set_option maxRecDepth 100000 in
theorem hk_94 : pm_hk 0 m_94 := ⟨⟨lw_gi 747 rfl rfl, lw_gi 62 rfl rfl, by decide +kernel, by decide +kernel, by decide +kernel⟩, lw_gi 745 rfl rfl, lw_gi 746 rfl rfl, rfl, by decide⟩
set_option maxRecDepth 100000 in
theorem hk_95 : pm_hk 0 m_95 := ⟨⟨lw_gi 751 rfl rfl, lw_gi 62 rfl rfl, by decide +kernel, by decide +kernel, by decide +kernel⟩, lw_gi 749 rfl rfl, lw_gi 750 rfl rfl, rfl, by decide⟩
set_option maxRecDepth 100000 in
theorem hk_96 : pm_hk 2 m_96 := ⟨⟨lw_gi 754 rfl rfl, lw_gi 59 rfl rfl, by decide +kernel, by decide +kernel, by decide +kernel⟩, lw_gi 753 rfl rfl⟩
set_option maxRecDepth 100000 in
theorem hk_97 : pm_hk 0 m_97 := ⟨⟨lw_gi 758 rfl rfl, lw_gi 65 rfl rfl, by decide +kernel, by decide +kernel, by decide +kernel⟩, lw_gi 757 rfl rfl, lw_gi 21 rfl rfl, rfl, by decide⟩
set_option maxRecDepth 100000 in
theorem hk_98 : pm_hk 0 m_98 := ⟨⟨lw_gi 763 rfl rfl, lw_gi 62 rfl rfl, by decide +kernel, by decide +kernel, by decide +kernel⟩, lw_gi 761 rfl rfl, lw_gi 762 rfl rfl, rfl, by decide⟩
set_option maxRecDepth 100000 in
theorem hk_99 : pm_hk 0 m_99 := ⟨⟨lw_gi 767 rfl rfl, lw_gi 62 rfl rfl, by decide +kernel, by decide +kernel, by decide +kernel⟩, lw_gi 765 rfl rfl, lw_gi 766 rfl rfl, rfl, by decide⟩
set_option maxRecDepth 100000 in
theorem hk_100 : pm_hk 0 m_100 := ⟨⟨lw_gi 772 rfl rfl, lw_gi 62 rfl rfl, by decide +kernel, by decide +kernel, by decide +kernel⟩, lw_gi 770 rfl rfl, lw_gi 771 rfl rfl, rfl, by decide⟩
set_option maxRecDepth 100000 in
theorem hk_101 : pm_hk 0 m_101 := ⟨⟨lw_gi 778 rfl rfl, lw_gi 59 rfl rfl, by decide +kernel, by decide +kernel, by decide +kernel⟩, lw_gi 776 rfl rfl, lw_gi 777 rfl rfl, rfl, by decide⟩
set_option maxRecDepth 100000 in
theorem hk_102 : pm_hk 0 m_102 := ⟨⟨lw_gi 782 rfl rfl, lw_gi 65 rfl rfl, by decide +kernel, by decide +kernel, by decide +kernel⟩, lw_gi 780 rfl rfl, lw_gi 781 rfl rfl, rfl, by decide⟩
set_option maxRecDepth 100000 in
theorem hk_103 : pm_hk 0 m_103 := ⟨⟨lw_gi 786 rfl rfl, lw_gi 62 rfl rfl, by decide +kernel, by decide +kernel, by decide +kernel⟩, lw_gi 784 rfl rfl, lw_gi 785 rfl rfl, rfl, by decide⟩
set_option maxRecDepth 100000 in
theorem hk_104 : pm_hk 0 m_104 := ⟨⟨lw_gi 790 rfl rfl, lw_gi 59 rfl rfl, by decide +kernel, by decide +kernel, by decide +kernel⟩, lw_gi 788 rfl rfl, lw_gi 789 rfl rfl, rfl, by decide⟩
set_option maxRecDepth 100000 in
theorem hk_105 : pm_hk 0 m_105 := ⟨⟨lw_gi 794 rfl rfl, lw_gi 65 rfl rfl, by decide +kernel, by decide +kernel, by decide +kernel⟩, lw_gi 792 rfl rfl, lw_gi 793 rfl rfl, rfl, by decide⟩
set_option maxRecDepth 100000 in
theorem hk_106 : pm_hk 0 m_106 := ⟨⟨lw_gi 800 rfl rfl, lw_gi 59 rfl rfl, by decide +kernel, by decide +kernel, by decide +kernel⟩, lw_gi 798 rfl rfl, lw_gi 799 rfl rfl, rfl, by decide⟩
set_option maxRecDepth 100000 in
theorem hk_107 : pm_hk 0 m_107 := ⟨⟨lw_gi 804 rfl rfl, lw_gi 65 rfl rfl, by decide +kernel, by decide +kernel, by decide +kernel⟩, lw_gi 802 rfl rfl, lw_gi 803 rfl rfl, rfl, by decide⟩
set_option maxRecDepth 100000 in
theorem hk_108 : pm_hk 0 m_108 := ⟨⟨lw_gi 808 rfl rfl, lw_gi 65 rfl rfl, by decide +kernel, by decide +kernel, by decide +kernel⟩, lw_gi 807 rfl rfl, lw_gi 22 rfl rfl, rfl, by decide⟩
set_option maxRecDepth 100000 in
theorem hk_109 : pm_hk 0 m_109 := ⟨⟨lw_gi 813 rfl rfl, lw_gi 62 rfl rfl, by decide +kernel, by decide +kernel, by decide +kernel⟩, lw_gi 811 rfl rfl, lw_gi 812 rfl rfl, rfl, by decide⟩
set_option maxRecDepth 100000 in
theorem hk_110 : pm_hk 0 m_110 := ⟨⟨lw_gi 821 rfl rfl, lw_gi 59 rfl rfl, by decide +kernel, by decide +kernel, by decide +kernel⟩, lw_gi 819 rfl rfl, lw_gi 820 rfl rfl, rfl, by decide⟩
set_option maxRecDepth 100000 in
theorem hk_111 : pm_hk 0 m_111 := ⟨⟨lw_gi 825 rfl rfl, lw_gi 65 rfl rfl, by decide +kernel, by decide +kernel, by decide +kernel⟩, lw_gi 823 rfl rfl, lw_gi 824 rfl rfl, rfl, by decide⟩
set_option maxRecDepth 100000 in
theorem hk_112 : pm_hk 0 m_112 := ⟨⟨lw_gi 833 rfl rfl, lw_gi 59 rfl rfl, by decide +kernel, by decide +kernel, by decide +kernel⟩, lw_gi 831 rfl rfl, lw_gi 832 rfl rfl, rfl, by decide⟩
set_option maxRecDepth 100000 in
theorem hk_113 : pm_hk 0 m_113 := ⟨⟨lw_gi 838 rfl rfl, lw_gi 65 rfl rfl, by decide +kernel, by decide +kernel, by decide +kernel⟩, lw_gi 836 rfl rfl, lw_gi 837 rfl rfl, rfl, by decide⟩
set_option maxRecDepth 100000 in
theorem hk_114 : pm_hk 2 m_114 := ⟨⟨lw_gi 841 rfl rfl, lw_gi 65 rfl rfl, by decide +kernel, by decide +kernel, by decide +kernel⟩, lw_gi 840 rfl rfl⟩
set_option maxRecDepth 100000 in
theorem hk_115 : pm_hk 0 m_115 := ⟨⟨lw_gi 845 rfl rfl, lw_gi 65 rfl rfl, by decide +kernel, by decide +kernel, by decide +kernel⟩, lw_gi 844 rfl rfl, lw_gi 23 rfl rfl, rfl, by decide⟩
set_option maxRecDepth 100000 in
theorem hk_116 : pm_hk 0 m_116 := ⟨⟨lw_gi 850 rfl rfl, lw_gi 62 rfl rfl, by decide +kernel, by decide +kernel, by decide +kernel⟩, lw_gi 848 rfl rfl, lw_gi 849 rfl rfl, rfl, by decide⟩
set_option maxRecDepth 100000 in
theorem hk_117 : pm_hk 2 m_117 := ⟨⟨lw_gi 854 rfl rfl, lw_gi 59 rfl rfl, by decide +kernel, by decide +kernel, by decide +kernel⟩, lw_gi 853 rfl rfl⟩
set_option maxRecDepth 100000 in
theorem hk_118 : pm_hk 0 m_118 := ⟨⟨lw_gi 858 rfl rfl, lw_gi 59 rfl rfl, by decide +kernel, by decide +kernel, by decide +kernel⟩, lw_gi 856 rfl rfl, lw_gi 857 rfl rfl, rfl, by decide⟩
set_option maxRecDepth 100000 in
theorem hk_119 : pm_hk 0 m_119 := ⟨⟨lw_gi 862 rfl rfl, lw_gi 59 rfl rfl, by decide +kernel, by decide +kernel, by decide +kernel⟩, lw_gi 860 rfl rfl, lw_gi 861 rfl rfl, rfl, by decide⟩
set_option maxRecDepth 100000 in
theorem hk_120 : pm_hk 0 m_120 := ⟨⟨lw_gi 866 rfl rfl, lw_gi 59 rfl rfl, by decide +kernel, by decide +kernel, by decide +kernel⟩, lw_gi 864 rfl rfl, lw_gi 865 rfl rfl, rfl, by decide⟩
set_option maxRecDepth 100000 in
theorem hk_121 : pm_hk 0 m_121 := ⟨⟨lw_gi 870 rfl rfl, lw_gi 65 rfl rfl, by decide +kernel, by decide +kernel, by decide +kernel⟩, lw_gi 868 rfl rfl, lw_gi 869 rfl rfl, rfl, by decide⟩
set_option maxRecDepth 100000 in
theorem hk_122 : pm_hk 0 m_122 := ⟨⟨lw_gi 874 rfl rfl, lw_gi 65 rfl rfl, by decide +kernel, by decide +kernel, by decide +kernel⟩, lw_gi 873 rfl rfl, lw_gi 24 rfl rfl, rfl, by decide⟩
set_option maxRecDepth 100000 in
theorem hk_123 : pm_hk 0 m_123 := ⟨⟨lw_gi 878 rfl rfl, lw_gi 64 rfl rfl, by decide +kernel, by decide +kernel, by decide +kernel⟩, lw_gi 876 rfl rfl, lw_gi 877 rfl rfl, rfl, by decide⟩
set_option maxRecDepth 100000 in
theorem hk_124 : pm_hk 0 m_124 := ⟨⟨lw_gi 883 rfl rfl, lw_gi 65 rfl rfl, by decide +kernel, by decide +kernel, by decide +kernel⟩, lw_gi 881 rfl rfl, lw_gi 882 rfl rfl, rfl, by decide⟩
set_option maxRecDepth 100000 in
theorem hk_125 : pm_hk 0 m_125 := ⟨⟨lw_gi 888 rfl rfl, lw_gi 59 rfl rfl, by decide +kernel, by decide +kernel, by decide +kernel⟩, lw_gi 886 rfl rfl, lw_gi 887 rfl rfl, rfl, by decide⟩
set_option maxRecDepth 100000 in
theorem hk_126 : pm_hk 0 m_126 := ⟨⟨lw_gi 892 rfl rfl, lw_gi 65 rfl rfl, by decide +kernel, by decide +kernel, by decide +kernel⟩, lw_gi 890 rfl rfl, lw_gi 891 rfl rfl, rfl, by decide⟩
set_option maxRecDepth 100000 in
theorem hk_127 : pm_hk 2 m_127 := ⟨⟨lw_gi 896 rfl rfl, lw_gi 74 rfl rfl, by decide +kernel, by decide +kernel, by decide +kernel⟩, lw_gi 895 rfl rfl⟩
set_option maxRecDepth 100000 in
theorem hk_128 : pm_hk 0 m_128 := ⟨⟨lw_gi 903 rfl rfl, lw_gi 59 rfl rfl, by decide +kernel, by decide +kernel, by decide +kernel⟩, lw_gi 901 rfl rfl, lw_gi 902 rfl rfl, rfl, by decide⟩
set_option maxRecDepth 100000 in
theorem hk_129 : pm_hk 0 m_129 := ⟨⟨lw_gi 907 rfl rfl, lw_gi 59 rfl rfl, by decide +kernel, by decide +kernel, by decide +kernel⟩, lw_gi 905 rfl rfl, lw_gi 906 rfl rfl, rfl, by decide⟩
set_option maxRecDepth 100000 in
theorem hk_130 : pm_hk 0 m_130 := ⟨⟨lw_gi 911 rfl rfl, lw_gi 59 rfl rfl, by decide +kernel, by decide +kernel, by decide +kernel⟩, lw_gi 909 rfl rfl, lw_gi 910 rfl rfl, rfl, by decide⟩
set_option maxRecDepth 100000 in
theorem hk_131 : pm_hk 2 m_131 := ⟨⟨lw_gi 914 rfl rfl, lw_gi 59 rfl rfl, by decide +kernel, by decide +kernel, by decide +kernel⟩, lw_gi 913 rfl rfl⟩
set_option maxRecDepth 100000 in
theorem hk_132 : pm_hk 2 m_132 := ⟨⟨lw_gi 917 rfl rfl, lw_gi 59 rfl rfl, by decide +kernel, by decide +kernel, by decide +kernel⟩, lw_gi 916 rfl rfl⟩
set_option maxRecDepth 100000 in
theorem hk_133 : pm_hk 0 m_133 := ⟨⟨lw_gi 921 rfl rfl, lw_gi 66 rfl rfl, by decide +kernel, by decide +kernel, by decide +kernel⟩, lw_gi 919 rfl rfl, lw_gi 920 rfl rfl, rfl, by decide⟩
set_option maxRecDepth 100000 in
theorem hk_134 : pm_hk 0 m_134 := ⟨⟨lw_gi 926 rfl rfl, lw_gi 59 rfl rfl, by decide +kernel, by decide +kernel, by decide +kernel⟩, lw_gi 924 rfl rfl, lw_gi 925 rfl rfl, rfl, by decide⟩
set_option maxRecDepth 100000 in
theorem hk_135 : pm_hk 0 m_135 := ⟨⟨lw_gi 930 rfl rfl, lw_gi 66 rfl rfl, by decide +kernel, by decide +kernel, by decide +kernel⟩, lw_gi 928 rfl rfl, lw_gi 929 rfl rfl, rfl, by decide⟩
set_option maxRecDepth 100000 in
theorem hk_136 : pm_hk 0 m_136 := ⟨⟨lw_gi 934 rfl rfl, lw_gi 66 rfl rfl, by decide +kernel, by decide +kernel, by decide +kernel⟩, lw_gi 932 rfl rfl, lw_gi 933 rfl rfl, rfl, by decide⟩
set_option maxRecDepth 100000 in
theorem hk_137 : pm_hk 0 m_137 := ⟨⟨lw_gi 938 rfl rfl, lw_gi 66 rfl rfl, by decide +kernel, by decide +kernel, by decide +kernel⟩, lw_gi 936 rfl rfl, lw_gi 937 rfl rfl, rfl, by decide⟩
set_option maxRecDepth 100000 in
theorem hk_138 : pm_hk 0 m_138 := ⟨⟨lw_gi 942 rfl rfl, lw_gi 59 rfl rfl, by decide +kernel, by decide +kernel, by decide +kernel⟩, lw_gi 940 rfl rfl, lw_gi 941 rfl rfl, rfl, by decide⟩
set_option maxRecDepth 100000 in
theorem hk_139 : pm_hk 0 m_139 := ⟨⟨lw_gi 946 rfl rfl, lw_gi 66 rfl rfl, by decide +kernel, by decide +kernel, by decide +kernel⟩, lw_gi 944 rfl rfl, lw_gi 945 rfl rfl, rfl, by decide⟩
set_option maxRecDepth 100000 in
theorem hk_140 : pm_hk 0 m_140 := ⟨⟨lw_gi 950 rfl rfl, lw_gi 66 rfl rfl, by decide +kernel, by decide +kernel, by decide +kernel⟩, lw_gi 948 rfl rfl, lw_gi 949 rfl rfl, rfl, by decide⟩
set_option maxRecDepth 100000 in
theorem hk_141 : pm_hk 0 m_141 := ⟨⟨lw_gi 955 rfl rfl, lw_gi 59 rfl rfl, by decide +kernel, by decide +kernel, by decide +kernel⟩, lw_gi 954 rfl rfl, lw_gi 25 rfl rfl, rfl, by decide⟩
set_option maxRecDepth 100000 in
theorem hk_142 : pm_hk 0 m_142 := ⟨⟨lw_gi 959 rfl rfl, lw_gi 59 rfl rfl, by decide +kernel, by decide +kernel, by decide +kernel⟩, lw_gi 957 rfl rfl, lw_gi 958 rfl rfl, rfl, by decide⟩
set_option maxRecDepth 100000 in
theorem hk_143 : pm_hk 0 m_143 := ⟨⟨lw_gi 963 rfl rfl, lw_gi 59 rfl rfl, by decide +kernel, by decide +kernel, by decide +kernel⟩, lw_gi 961 rfl rfl, lw_gi 962 rfl rfl, rfl, by decide⟩
set_option maxRecDepth 100000 in
theorem hk_144 : pm_hk 0 m_144 := ⟨⟨lw_gi 970 rfl rfl, lw_gi 62 rfl rfl, by decide +kernel, by decide +kernel, by decide +kernel⟩, lw_gi 968 rfl rfl, lw_gi 969 rfl rfl, rfl, by decide⟩
set_option maxRecDepth 100000 in
theorem hk_145 : pm_hk 1 m_145 := ⟨⟨lw_gi 975 rfl rfl, lw_gi 67 rfl rfl, by decide +kernel, by decide +kernel, by decide +kernel⟩, lw_gi 974 rfl rfl, rfl, rfl⟩
set_option maxRecDepth 100000 in
theorem hk_146 : pm_hk 0 m_146 := ⟨⟨lw_gi 980 rfl rfl, lw_gi 67 rfl rfl, by decide +kernel, by decide +kernel, by decide +kernel⟩, lw_gi 979 rfl rfl, lw_gi 26 rfl rfl, rfl, by decide⟩
set_option maxRecDepth 100000 in
theorem hk_147 : pm_hk 0 m_147 := ⟨⟨lw_gi 984 rfl rfl, lw_gi 67 rfl rfl, by decide +kernel, by decide +kernel, by decide +kernel⟩, lw_gi 983 rfl rfl, lw_gi 27 rfl rfl, rfl, by decide⟩
set_option maxRecDepth 100000 in
theorem hk_148 : pm_hk 0 m_148 := ⟨⟨lw_gi 1095 rfl rfl, lw_gi 67 rfl rfl, by decide +kernel, by decide +kernel, by decide +kernel⟩, lw_gi 1093 rfl rfl, lw_gi 1094 rfl rfl, rfl, by decide⟩
set_option maxRecDepth 100000 in
theorem hk_149 : pm_hk 2 m_149 := ⟨⟨lw_gi 1099 rfl rfl, lw_gi 67 rfl rfl, by decide +kernel, by decide +kernel, by decide +kernel⟩, lw_gi 1098 rfl rfl⟩
set_option maxRecDepth 100000 in
theorem hk_150 : pm_hk 0 m_150 := ⟨⟨lw_gi 1103 rfl rfl, lw_gi 67 rfl rfl, by decide +kernel, by decide +kernel, by decide +kernel⟩, lw_gi 1101 rfl rfl, lw_gi 1102 rfl rfl, rfl, by decide⟩
set_option maxRecDepth 100000 in
theorem hk_151 : pm_hk 0 m_151 := ⟨⟨lw_gi 1107 rfl rfl, lw_gi 67 rfl rfl, by decide +kernel, by decide +kernel, by decide +kernel⟩, lw_gi 1105 rfl rfl, lw_gi 1106 rfl rfl, rfl, by decide⟩
set_option maxRecDepth 100000 in
theorem hk_152 : pm_hk 0 m_152 := ⟨⟨lw_gi 1111 rfl rfl, lw_gi 67 rfl rfl, by decide +kernel, by decide +kernel, by decide +kernel⟩, lw_gi 1110 rfl rfl, lw_gi 28 rfl rfl, rfl, by decide⟩
set_option maxRecDepth 100000 in
theorem hk_153 : pm_hk 0 m_153 := ⟨⟨lw_gi 1115 rfl rfl, lw_gi 67 rfl rfl, by decide +kernel, by decide +kernel, by decide +kernel⟩, lw_gi 1114 rfl rfl, lw_gi 29 rfl rfl, rfl, by decide⟩
set_option maxRecDepth 100000 in
theorem hk_154 : pm_hk 0 m_154 := ⟨⟨lw_gi 1123 rfl rfl, lw_gi 67 rfl rfl, by decide +kernel, by decide +kernel, by decide +kernel⟩, lw_gi 1122 rfl rfl, lw_gi 30 rfl rfl, rfl, by decide⟩
set_option maxRecDepth 100000 in
theorem hk_155 : pm_hk 0 m_155 := ⟨⟨lw_gi 1127 rfl rfl, lw_gi 67 rfl rfl, by decide +kernel, by decide +kernel, by decide +kernel⟩, lw_gi 1126 rfl rfl, lw_gi 31 rfl rfl, rfl, by decide⟩
set_option maxRecDepth 100000 in
theorem hk_156 : pm_hk 0 m_156 := ⟨⟨lw_gi 1131 rfl rfl, lw_gi 67 rfl rfl, by decide +kernel, by decide +kernel, by decide +kernel⟩, lw_gi 1130 rfl rfl, lw_gi 32 rfl rfl, rfl, by decide⟩
set_option maxRecDepth 100000 in
theorem hk_157 : pm_hk 0 m_157 := ⟨⟨lw_gi 1135 rfl rfl, lw_gi 67 rfl rfl, by decide +kernel, by decide +kernel, by decide +kernel⟩, lw_gi 1134 rfl rfl, lw_gi 33 rfl rfl, rfl, by decide⟩
set_option maxRecDepth 100000 in
theorem hk_158 : pm_hk 0 m_158 := ⟨⟨lw_gi 1139 rfl rfl, lw_gi 67 rfl rfl, by decide +kernel, by decide +kernel, by decide +kernel⟩, lw_gi 1138 rfl rfl, lw_gi 34 rfl rfl, rfl, by decide⟩
set_option maxRecDepth 100000 in
theorem hk_159 : pm_hk 0 m_159 := ⟨⟨lw_gi 1143 rfl rfl, lw_gi 67 rfl rfl, by decide +kernel, by decide +kernel, by decide +kernel⟩, lw_gi 1142 rfl rfl, lw_gi 35 rfl rfl, rfl, by decide⟩
set_option maxRecDepth 100000 in
theorem hk_160 : pm_hk 0 m_160 := ⟨⟨lw_gi 1147 rfl rfl, lw_gi 67 rfl rfl, by decide +kernel, by decide +kernel, by decide +kernel⟩, lw_gi 1146 rfl rfl, lw_gi 36 rfl rfl, rfl, by decide⟩
set_option maxRecDepth 100000 in
theorem hk_161 : pm_hk 0 m_161 := ⟨⟨lw_gi 1151 rfl rfl, lw_gi 67 rfl rfl, by decide +kernel, by decide +kernel, by decide +kernel⟩, lw_gi 1150 rfl rfl, lw_gi 37 rfl rfl, rfl, by decide⟩
set_option maxRecDepth 100000 in
theorem hk_162 : pm_hk 0 m_162 := ⟨⟨lw_gi 1155 rfl rfl, lw_gi 67 rfl rfl, by decide +kernel, by decide +kernel, by decide +kernel⟩, lw_gi 1154 rfl rfl, lw_gi 38 rfl rfl, rfl, by decide⟩
set_option maxRecDepth 100000 in
theorem hk_163 : pm_hk 0 m_163 := ⟨⟨lw_gi 1159 rfl rfl, lw_gi 67 rfl rfl, by decide +kernel, by decide +kernel, by decide +kernel⟩, lw_gi 1158 rfl rfl, lw_gi 39 rfl rfl, rfl, by decide⟩
set_option maxRecDepth 100000 in
theorem hk_164 : pm_hk 2 m_164 := ⟨⟨lw_gi 1162 rfl rfl, lw_gi 67 rfl rfl, by decide +kernel, by decide +kernel, by decide +kernel⟩, lw_gi 1161 rfl rfl⟩
set_option maxRecDepth 100000 in
theorem hk_165 : pm_hk 0 m_165 := ⟨⟨lw_gi 1166 rfl rfl, lw_gi 67 rfl rfl, by decide +kernel, by decide +kernel, by decide +kernel⟩, lw_gi 1165 rfl rfl, lw_gi 40 rfl rfl, rfl, by decide⟩
set_option maxRecDepth 100000 in
theorem hk_166 : pm_hk 0 m_166 := ⟨⟨lw_gi 1170 rfl rfl, lw_gi 67 rfl rfl, by decide +kernel, by decide +kernel, by decide +kernel⟩, lw_gi 1168 rfl rfl, lw_gi 1169 rfl rfl, rfl, by decide⟩
set_option maxRecDepth 100000 in
theorem hk_167 : pm_hk 0 m_167 := ⟨⟨lw_gi 1174 rfl rfl, lw_gi 67 rfl rfl, by decide +kernel, by decide +kernel, by decide +kernel⟩, lw_gi 1172 rfl rfl, lw_gi 1173 rfl rfl, rfl, by decide⟩
set_option maxRecDepth 100000 in
theorem hk_168 : pm_hk 0 m_168 := ⟨⟨lw_gi 1179 rfl rfl, lw_gi 67 rfl rfl, by decide +kernel, by decide +kernel, by decide +kernel⟩, lw_gi 1177 rfl rfl, lw_gi 1178 rfl rfl, rfl, by decide⟩
set_option maxRecDepth 100000 in
theorem hk_169 : pm_hk 0 m_169 := ⟨⟨lw_gi 1183 rfl rfl, lw_gi 67 rfl rfl, by decide +kernel, by decide +kernel, by decide +kernel⟩, lw_gi 1182 rfl rfl, lw_gi 41 rfl rfl, rfl, by decide⟩
set_option maxRecDepth 100000 in
theorem hk_170 : pm_hk 0 m_170 := ⟨⟨lw_gi 1188 rfl rfl, lw_gi 67 rfl rfl, by decide +kernel, by decide +kernel, by decide +kernel⟩, lw_gi 1186 rfl rfl, lw_gi 1187 rfl rfl, rfl, by decide⟩
set_option maxRecDepth 100000 in
theorem hk_171 : pm_hk 0 m_171 := ⟨⟨lw_gi 1192 rfl rfl, lw_gi 67 rfl rfl, by decide +kernel, by decide +kernel, by decide +kernel⟩, lw_gi 1191 rfl rfl, lw_gi 42 rfl rfl, rfl, by decide⟩
set_option maxRecDepth 100000 in
theorem hk_172 : pm_hk 0 m_172 := ⟨⟨lw_gi 1196 rfl rfl, lw_gi 67 rfl rfl, by decide +kernel, by decide +kernel, by decide +kernel⟩, lw_gi 1195 rfl rfl, lw_gi 43 rfl rfl, rfl, by decide⟩
set_option maxRecDepth 100000 in
theorem hk_173 : pm_hk 0 m_173 := ⟨⟨lw_gi 1200 rfl rfl, lw_gi 67 rfl rfl, by decide +kernel, by decide +kernel, by decide +kernel⟩, lw_gi 1199 rfl rfl, lw_gi 44 rfl rfl, rfl, by decide⟩
set_option maxRecDepth 100000 in
theorem hk_174 : pm_hk 0 m_174 := ⟨⟨lw_gi 1204 rfl rfl, lw_gi 67 rfl rfl, by decide +kernel, by decide +kernel, by decide +kernel⟩, lw_gi 1202 rfl rfl, lw_gi 1203 rfl rfl, rfl, by decide⟩
set_option maxRecDepth 100000 in
theorem hk_175 : pm_hk 0 m_175 := ⟨⟨lw_gi 1208 rfl rfl, lw_gi 67 rfl rfl, by decide +kernel, by decide +kernel, by decide +kernel⟩, lw_gi 1207 rfl rfl, lw_gi 45 rfl rfl, rfl, by decide⟩
set_option maxRecDepth 100000 in
theorem hk_176 : pm_hk 0 m_176 := ⟨⟨lw_gi 1212 rfl rfl, lw_gi 67 rfl rfl, by decide +kernel, by decide +kernel, by decide +kernel⟩, lw_gi 1210 rfl rfl, lw_gi 1211 rfl rfl, rfl, by decide⟩
set_option maxRecDepth 100000 in
theorem hk_177 : pm_hk 0 m_177 := ⟨⟨lw_gi 1216 rfl rfl, lw_gi 67 rfl rfl, by decide +kernel, by decide +kernel, by decide +kernel⟩, lw_gi 1215 rfl rfl, lw_gi 46 rfl rfl, rfl, by decide⟩
set_option maxRecDepth 100000 in
theorem hk_178 : pm_hk 0 m_178 := ⟨⟨lw_gi 1220 rfl rfl, lw_gi 67 rfl rfl, by decide +kernel, by decide +kernel, by decide +kernel⟩, lw_gi 1218 rfl rfl, lw_gi 1219 rfl rfl, rfl, by decide⟩
set_option maxRecDepth 100000 in
theorem hk_179 : pm_hk 0 m_179 := ⟨⟨lw_gi 1224 rfl rfl, lw_gi 67 rfl rfl, by decide +kernel, by decide +kernel, by decide +kernel⟩, lw_gi 1222 rfl rfl, lw_gi 1223 rfl rfl, rfl, by decide⟩
set_option maxRecDepth 100000 in
theorem hk_180 : pm_hk 0 m_180 := ⟨⟨lw_gi 1228 rfl rfl, lw_gi 67 rfl rfl, by decide +kernel, by decide +kernel, by decide +kernel⟩, lw_gi 1226 rfl rfl, lw_gi 1227 rfl rfl, rfl, by decide⟩
set_option maxRecDepth 100000 in
theorem hk_181 : pm_hk 0 m_181 := ⟨⟨lw_gi 1232 rfl rfl, lw_gi 67 rfl rfl, by decide +kernel, by decide +kernel, by decide +kernel⟩, lw_gi 1230 rfl rfl, lw_gi 1231 rfl rfl, rfl, by decide⟩
set_option maxRecDepth 100000 in
theorem hk_182 : pm_hk 0 m_182 := ⟨⟨lw_gi 1237 rfl rfl, lw_gi 67 rfl rfl, by decide +kernel, by decide +kernel, by decide +kernel⟩, lw_gi 1235 rfl rfl, lw_gi 1236 rfl rfl, rfl, by decide⟩
set_option maxRecDepth 100000 in
theorem hk_183 : pm_hk 0 m_183 := ⟨⟨lw_gi 1241 rfl rfl, lw_gi 67 rfl rfl, by decide +kernel, by decide +kernel, by decide +kernel⟩, lw_gi 1239 rfl rfl, lw_gi 1240 rfl rfl, rfl, by decide⟩
set_option maxRecDepth 100000 in
theorem hk_184 : pm_hk 0 m_184 := ⟨⟨lw_gi 1245 rfl rfl, lw_gi 67 rfl rfl, by decide +kernel, by decide +kernel, by decide +kernel⟩, lw_gi 1244 rfl rfl, lw_gi 47 rfl rfl, rfl, by decide⟩
set_option maxRecDepth 100000 in
theorem hk_185 : pm_hk 0 m_185 := ⟨⟨lw_gi 1249 rfl rfl, lw_gi 67 rfl rfl, by decide +kernel, by decide +kernel, by decide +kernel⟩, lw_gi 1248 rfl rfl, lw_gi 48 rfl rfl, rfl, by decide⟩
set_option maxRecDepth 100000 in
theorem hk_186 : pm_hk 2 m_186 := ⟨⟨lw_gi 1252 rfl rfl, lw_gi 67 rfl rfl, by decide +kernel, by decide +kernel, by decide +kernel⟩, lw_gi 1251 rfl rfl⟩
set_option maxRecDepth 100000 in
theorem hk_187 : pm_hk 2 m_187 := ⟨⟨lw_gi 1255 rfl rfl, lw_gi 67 rfl rfl, by decide +kernel, by decide +kernel, by decide +kernel⟩, lw_gi 1254 rfl rfl⟩
set_option maxRecDepth 100000 in
theorem hk_188 : pm_hk 0 m_188 := ⟨⟨lw_gi 1259 rfl rfl, lw_gi 67 rfl rfl, by decide +kernel, by decide +kernel, by decide +kernel⟩, lw_gi 1257 rfl rfl, lw_gi 1258 rfl rfl, rfl, by decide⟩
set_option maxRecDepth 100000 in
theorem hk_189 : pm_hk 0 m_189 := ⟨⟨lw_gi 1263 rfl rfl, lw_gi 67 rfl rfl, by decide +kernel, by decide +kernel, by decide +kernel⟩, lw_gi 1262 rfl rfl, lw_gi 49 rfl rfl, rfl, by decide⟩
set_option maxRecDepth 100000 in
theorem hk_190 : pm_hk 0 m_190 := ⟨⟨lw_gi 1267 rfl rfl, lw_gi 67 rfl rfl, by decide +kernel, by decide +kernel, by decide +kernel⟩, lw_gi 1265 rfl rfl, lw_gi 1266 rfl rfl, rfl, by decide⟩
set_option maxRecDepth 100000 in
theorem hk_191 : pm_hk 0 m_191 := ⟨⟨lw_gi 1271 rfl rfl, lw_gi 67 rfl rfl, by decide +kernel, by decide +kernel, by decide +kernel⟩, lw_gi 1270 rfl rfl, lw_gi 50 rfl rfl, rfl, by decide⟩
set_option maxRecDepth 100000 in
theorem hk_192 : pm_hk 0 m_192 := ⟨⟨lw_gi 1275 rfl rfl, lw_gi 67 rfl rfl, by decide +kernel, by decide +kernel, by decide +kernel⟩, lw_gi 1274 rfl rfl, lw_gi 51 rfl rfl, rfl, by decide⟩
set_option maxRecDepth 100000 in
theorem hk_193 : pm_hk 0 m_193 := ⟨⟨lw_gi 1279 rfl rfl, lw_gi 67 rfl rfl, by decide +kernel, by decide +kernel, by decide +kernel⟩, lw_gi 1278 rfl rfl, lw_gi 52 rfl rfl, rfl, by decide⟩
set_option maxRecDepth 100000 in
theorem hk_194 : pm_hk 2 m_194 := ⟨⟨lw_gi 1282 rfl rfl, lw_gi 67 rfl rfl, by decide +kernel, by decide +kernel, by decide +kernel⟩, lw_gi 1281 rfl rfl⟩
set_option maxRecDepth 100000 in
theorem hk_195 : pm_hk 0 m_195 := ⟨⟨lw_gi 1286 rfl rfl, lw_gi 67 rfl rfl, by decide +kernel, by decide +kernel, by decide +kernel⟩, lw_gi 1284 rfl rfl, lw_gi 1285 rfl rfl, rfl, by decide⟩
set_option maxRecDepth 100000 in
theorem hk_196 : pm_hk 0 m_196 := ⟨⟨lw_gi 1290 rfl rfl, lw_gi 67 rfl rfl, by decide +kernel, by decide +kernel, by decide +kernel⟩, lw_gi 1288 rfl rfl, lw_gi 1289 rfl rfl, rfl, by decide⟩
set_option maxRecDepth 100000 in
theorem hk_197 : pm_hk 0 m_197 := ⟨⟨lw_gi 1295 rfl rfl, lw_gi 67 rfl rfl, by decide +kernel, by decide +kernel, by decide +kernel⟩, lw_gi 1294 rfl rfl, lw_gi 53 rfl rfl, rfl, by decide⟩
set_option maxRecDepth 100000 in
theorem hk_198 : pm_hk 0 m_198 := ⟨⟨lw_gi 1299 rfl rfl, lw_gi 67 rfl rfl, by decide +kernel, by decide +kernel, by decide +kernel⟩, lw_gi 1297 rfl rfl, lw_gi 1298 rfl rfl, rfl, by decide⟩
set_option maxRecDepth 100000 in
theorem hk_199 : pm_hk 0 m_199 := ⟨⟨lw_gi 1303 rfl rfl, lw_gi 67 rfl rfl, by decide +kernel, by decide +kernel, by decide +kernel⟩, lw_gi 1301 rfl rfl, lw_gi 1302 rfl rfl, rfl, by decide⟩
set_option maxRecDepth 100000 in
theorem hk_200 : pm_hk 0 m_200 := ⟨⟨lw_gi 1307 rfl rfl, lw_gi 67 rfl rfl, by decide +kernel, by decide +kernel, by decide +kernel⟩, lw_gi 1305 rfl rfl, lw_gi 1306 rfl rfl, rfl, by decide⟩
set_option maxRecDepth 100000 in
theorem hk_201 : pm_hk 0 m_201 := ⟨⟨lw_gi 1311 rfl rfl, lw_gi 67 rfl rfl, by decide +kernel, by decide +kernel, by decide +kernel⟩, lw_gi 1309 rfl rfl, lw_gi 1310 rfl rfl, rfl, by decide⟩
set_option maxRecDepth 100000 in
theorem hk_202 : pm_hk 2 m_202 := ⟨⟨lw_gi 1316 rfl rfl, lw_gi 67 rfl rfl, by decide +kernel, by decide +kernel, by decide +kernel⟩, lw_gi 1315 rfl rfl⟩
set_option maxRecDepth 100000 in
theorem hk_203 : pm_hk 0 m_203 := ⟨⟨lw_gi 1320 rfl rfl, lw_gi 67 rfl rfl, by decide +kernel, by decide +kernel, by decide +kernel⟩, lw_gi 1319 rfl rfl, lw_gi 54 rfl rfl, rfl, by decide⟩
set_option maxRecDepth 100000 in
theorem hk_204 : pm_hk 0 m_204 := ⟨⟨lw_gi 1324 rfl rfl, lw_gi 67 rfl rfl, by decide +kernel, by decide +kernel, by decide +kernel⟩, lw_gi 1323 rfl rfl, lw_gi 55 rfl rfl, rfl, by decide⟩
set_option maxRecDepth 100000 in
theorem hk_205 : pm_hk 0 m_205 := ⟨⟨lw_gi 1328 rfl rfl, lw_gi 67 rfl rfl, by decide +kernel, by decide +kernel, by decide +kernel⟩, lw_gi 1327 rfl rfl, lw_gi 56 rfl rfl, rfl, by decide⟩
set_option maxRecDepth 100000 in
theorem hk_206 : pm_hk 0 m_206 := ⟨⟨lw_gi 1332 rfl rfl, lw_gi 67 rfl rfl, by decide +kernel, by decide +kernel, by decide +kernel⟩, lw_gi 1330 rfl rfl, lw_gi 1331 rfl rfl, rfl, by decide⟩
set_option maxRecDepth 100000 in
theorem hk_207 : pm_hk 0 m_207 := ⟨⟨lw_gi 1336 rfl rfl, lw_gi 67 rfl rfl, by decide +kernel, by decide +kernel, by decide +kernel⟩, lw_gi 1334 rfl rfl, lw_gi 1335 rfl rfl, rfl, by decide⟩
set_option maxRecDepth 100000 in
theorem hk_208 : pm_hk 0 m_208 := ⟨⟨lw_gi 1340 rfl rfl, lw_gi 67 rfl rfl, by decide +kernel, by decide +kernel, by decide +kernel⟩, lw_gi 1338 rfl rfl, lw_gi 1339 rfl rfl, rfl, by decide⟩
set_option maxRecDepth 100000 in
theorem hk_209 : pm_hk 0 m_209 := ⟨⟨lw_gi 1346 rfl rfl, lw_gi 67 rfl rfl, by decide +kernel, by decide +kernel, by decide +kernel⟩, lw_gi 1344 rfl rfl, lw_gi 1345 rfl rfl, rfl, by decide⟩
set_option maxRecDepth 100000 in
theorem hk_210 : pm_hk 0 m_210 := ⟨⟨lw_gi 1350 rfl rfl, lw_gi 67 rfl rfl, by decide +kernel, by decide +kernel, by decide +kernel⟩, lw_gi 1348 rfl rfl, lw_gi 1349 rfl rfl, rfl, by decide⟩
set_option maxRecDepth 100000 in
theorem hk_211 : pm_hk 2 m_211 := ⟨⟨lw_gi 1354 rfl rfl, lw_gi 67 rfl rfl, by decide +kernel, by decide +kernel, by decide +kernel⟩, lw_gi 1353 rfl rfl⟩
set_option maxRecDepth 100000 in
theorem hk_212 : pm_hk 0 m_212 := ⟨⟨lw_gi 1358 rfl rfl, lw_gi 67 rfl rfl, by decide +kernel, by decide +kernel, by decide +kernel⟩, lw_gi 1356 rfl rfl, lw_gi 1357 rfl rfl, rfl, by decide⟩
set_option maxRecDepth 100000 in
theorem hk_213 : pm_hk 0 m_213 := ⟨⟨lw_gi 1362 rfl rfl, lw_gi 67 rfl rfl, by decide +kernel, by decide +kernel, by decide +kernel⟩, lw_gi 1360 rfl rfl, lw_gi 1361 rfl rfl, rfl, by decide⟩
set_option maxRecDepth 100000 in
theorem hk_214 : pm_hk 0 m_214 := ⟨⟨lw_gi 1366 rfl rfl, lw_gi 67 rfl rfl, by decide +kernel, by decide +kernel, by decide +kernel⟩, lw_gi 1364 rfl rfl, lw_gi 1365 rfl rfl, rfl, by decide⟩
set_option maxRecDepth 100000 in
theorem hk_215 : pm_hk 0 m_215 := ⟨⟨lw_gi 1370 rfl rfl, lw_gi 67 rfl rfl, by decide +kernel, by decide +kernel, by decide +kernel⟩, lw_gi 1368 rfl rfl, lw_gi 1369 rfl rfl, rfl, by decide⟩
set_option maxRecDepth 100000 in
theorem hk_216 : pm_hk 0 m_216 := ⟨⟨lw_gi 1375 rfl rfl, lw_gi 67 rfl rfl, by decide +kernel, by decide +kernel, by decide +kernel⟩, lw_gi 1373 rfl rfl, lw_gi 1374 rfl rfl, rfl, by decide⟩
set_option maxRecDepth 100000 in
theorem hk_217 : pm_hk 0 m_217 := ⟨⟨lw_gi 1379 rfl rfl, lw_gi 67 rfl rfl, by decide +kernel, by decide +kernel, by decide +kernel⟩, lw_gi 1378 rfl rfl, lw_gi 57 rfl rfl, rfl, by decide⟩
set_option maxRecDepth 100000 in
theorem hk_218 : pm_hk 0 m_218 := ⟨⟨lw_gi 1383 rfl rfl, lw_gi 67 rfl rfl, by decide +kernel, by decide +kernel, by decide +kernel⟩, lw_gi 1381 rfl rfl, lw_gi 1382 rfl rfl, rfl, by decide⟩
set_option maxRecDepth 100000 in
theorem hk_219 : pm_hk 0 m_219 := ⟨⟨lw_gi 1387 rfl rfl, lw_gi 67 rfl rfl, by decide +kernel, by decide +kernel, by decide +kernel⟩, lw_gi 1385 rfl rfl, lw_gi 1386 rfl rfl, rfl, by decide⟩
set_option maxRecDepth 100000 in
theorem hk_220 : pm_hk 2 m_220 := ⟨⟨lw_gi 1390 rfl rfl, lw_gi 67 rfl rfl, by decide +kernel, by decide +kernel, by decide +kernel⟩, lw_gi 1389 rfl rfl⟩
set_option maxRecDepth 100000 in
theorem hk_221 : pm_hk 0 m_221 := ⟨⟨lw_gi 1395 rfl rfl, lw_gi 67 rfl rfl, by decide +kernel, by decide +kernel, by decide +kernel⟩, lw_gi 1393 rfl rfl, lw_gi 1394 rfl rfl, rfl, by decide⟩
set_option maxRecDepth 100000 in
theorem hk_222 : pm_hk 0 m_222 := ⟨⟨lw_gi 1399 rfl rfl, lw_gi 67 rfl rfl, by decide +kernel, by decide +kernel, by decide +kernel⟩, lw_gi 1397 rfl rfl, lw_gi 1398 rfl rfl, rfl, by decide⟩
set_option maxRecDepth 100000 in
theorem hk_223 : pm_hk 0 m_223 := ⟨⟨lw_gi 1405 rfl rfl, lw_gi 67 rfl rfl, by decide +kernel, by decide +kernel, by decide +kernel⟩, lw_gi 1403 rfl rfl, lw_gi 1404 rfl rfl, rfl, by decide⟩
set_option maxRecDepth 100000 in
theorem hk_224 : pm_hk 0 m_224 := ⟨⟨lw_gi 1409 rfl rfl, lw_gi 67 rfl rfl, by decide +kernel, by decide +kernel, by decide +kernel⟩, lw_gi 1407 rfl rfl, lw_gi 1408 rfl rfl, rfl, by decide⟩
end
section
/-! THE METHODS: what their instructions link (printed by wip/gen/gen10.py). -/
def okF (q : Nat × Nat × Nat × Nat) : Prop := q.2.2.1 < 8 ∧ q.2.2.2 < kM q.2.2.1 ∧ Cond.fieldLink (kN q.1) q.2.1 (kN q.2.2.1) (kT q.2.2.1 q.2.2.2).2.1 (kT q.2.2.1 q.2.2.2).2.2.1 ∈ lw_gt
set_option maxRecDepth 100000 in
theorem lf_0 : okF (0, 9, 0, 0) := ⟨by decide, by decide, lw_gi 288 rfl rfl⟩
set_option maxRecDepth 100000 in
theorem lf_1 : okF (0, 18, 0, 1) := ⟨by decide, by decide, lw_gi 289 rfl rfl⟩
set_option maxRecDepth 100000 in
theorem lf_2 : okF (0, 22, 0, 2) := ⟨by decide, by decide, lw_gi 290 rfl rfl⟩
set_option maxRecDepth 100000 in
theorem lf_3 : okF (0, 39, 4, 3) := ⟨by decide, by decide, lw_gi 147 rfl rfl⟩
set_option maxRecDepth 100000 in
theorem lf_4 : okF (0, 43, 5, 4) := ⟨by decide, by decide, lw_gi 260 rfl rfl⟩
set_option maxRecDepth 100000 in
theorem lf_5 : okF (0, 94, 4, 7) := ⟨by decide, by decide, lw_gi 163 rfl rfl⟩
set_option maxRecDepth 100000 in
theorem lf_6 : okF (0, 105, 4, 8) := ⟨by decide, by decide, lw_gi 168 rfl rfl⟩
set_option maxRecDepth 100000 in
theorem lf_7 : okF (0, 115, 4, 10) := ⟨by decide, by decide, lw_gi 175 rfl rfl⟩
set_option maxRecDepth 100000 in
theorem lf_8 : okF (0, 145, 4, 6) := ⟨by decide, by decide, lw_gi 158 rfl rfl⟩
set_option maxRecDepth 100000 in
theorem lf_9 : okF (0, 148, 4, 12) := ⟨by decide, by decide, lw_gi 181 rfl rfl⟩
set_option maxRecDepth 100000 in
theorem lf_10 : okF (0, 154, 4, 13) := ⟨by decide, by decide, lw_gi 184 rfl rfl⟩
set_option maxRecDepth 100000 in
theorem lf_11 : okF (0, 158, 5, 5) := ⟨by decide, by decide, lw_gi 263 rfl rfl⟩
set_option maxRecDepth 100000 in
theorem lf_12 : okF (1, 9, 1, 0) := ⟨by decide, by decide, lw_gi 307 rfl rfl⟩
set_option maxRecDepth 100000 in
theorem lf_13 : okF (1, 15, 1, 1) := ⟨by decide, by decide, lw_gi 309 rfl rfl⟩
set_option maxRecDepth 100000 in
theorem lf_14 : okF (1, 19, 1, 2) := ⟨by decide, by decide, lw_gi 311 rfl rfl⟩
set_option maxRecDepth 100000 in
theorem lf_15 : okF (2, 9, 2, 0) := ⟨by decide, by decide, lw_gi 89 rfl rfl⟩
set_option maxRecDepth 100000 in
theorem lf_16 : okF (2, 15, 2, 1) := ⟨by decide, by decide, lw_gi 90 rfl rfl⟩
set_option maxRecDepth 100000 in
theorem lf_17 : okF (2, 19, 2, 5) := ⟨by decide, by decide, lw_gi 99 rfl rfl⟩
set_option maxRecDepth 100000 in
theorem lf_18 : okF (2, 22, 2, 3) := ⟨by decide, by decide, lw_gi 96 rfl rfl⟩
set_option maxRecDepth 100000 in
theorem lf_19 : okF (2, 25, 2, 2) := ⟨by decide, by decide, lw_gi 94 rfl rfl⟩
set_option maxRecDepth 100000 in
theorem lf_20 : okF (2, 35, 2, 4) := ⟨by decide, by decide, lw_gi 97 rfl rfl⟩
set_option maxRecDepth 100000 in
theorem lf_21 : okF (3, 9, 3, 4) := ⟨by decide, by decide, lw_gi 224 rfl rfl⟩
set_option maxRecDepth 100000 in
theorem lf_22 : okF (3, 18, 3, 0) := ⟨by decide, by decide, lw_gi 216 rfl rfl⟩
set_option maxRecDepth 100000 in
theorem lf_23 : okF (3, 25, 3, 1) := ⟨by decide, by decide, lw_gi 218 rfl rfl⟩
set_option maxRecDepth 100000 in
theorem lf_24 : okF (3, 29, 3, 2) := ⟨by decide, by decide, lw_gi 220 rfl rfl⟩
set_option maxRecDepth 100000 in
theorem lf_25 : okF (3, 32, 3, 3) := ⟨by decide, by decide, lw_gi 222 rfl rfl⟩
set_option maxRecDepth 100000 in
theorem lf_26 : okF (3, 35, 3, 5) := ⟨by decide, by decide, lw_gi 225 rfl rfl⟩
set_option maxRecDepth 100000 in
theorem lf_27 : okF (3, 39, 3, 6) := ⟨by decide, by decide, lw_gi 226 rfl rfl⟩
set_option maxRecDepth 100000 in
theorem lf_28 : okF (3, 42, 3, 7) := ⟨by decide, by decide, lw_gi 227 rfl rfl⟩
set_option maxRecDepth 100000 in
theorem lf_29 : okF (3, 53, 2, 2) := ⟨by decide, by decide, lw_gi 93 rfl rfl⟩
set_option maxRecDepth 100000 in
theorem lf_30 : okF (3, 66, 2, 1) := ⟨by decide, by decide, lw_gi 92 rfl rfl⟩
set_option maxRecDepth 100000 in
theorem lf_31 : okF (3, 73, 2, 3) := ⟨by decide, by decide, lw_gi 95 rfl rfl⟩
set_option maxRecDepth 100000 in
theorem lf_32 : okF (3, 117, 2, 4) := ⟨by decide, by decide, lw_gi 98 rfl rfl⟩
set_option maxRecDepth 100000 in
theorem lf_33 : okF (3, 131, 4, 0) := ⟨by decide, by decide, lw_gi 136 rfl rfl⟩
set_option maxRecDepth 100000 in
theorem lf_34 : okF (3, 134, 4, 1) := ⟨by decide, by decide, lw_gi 140 rfl rfl⟩
set_option maxRecDepth 100000 in
theorem lf_35 : okF (3, 140, 4, 2) := ⟨by decide, by decide, lw_gi 144 rfl rfl⟩
set_option maxRecDepth 100000 in
theorem lf_36 : okF (3, 143, 4, 3) := ⟨by decide, by decide, lw_gi 149 rfl rfl⟩
set_option maxRecDepth 100000 in
theorem lf_37 : okF (3, 150, 4, 11) := ⟨by decide, by decide, lw_gi 179 rfl rfl⟩
set_option maxRecDepth 100000 in
theorem lf_38 : okF (3, 154, 4, 4) := ⟨by decide, by decide, lw_gi 153 rfl rfl⟩
set_option maxRecDepth 100000 in
theorem lf_39 : okF (3, 156, 4, 10) := ⟨by decide, by decide, lw_gi 174 rfl rfl⟩
set_option maxRecDepth 100000 in
theorem lf_40 : okF (3, 159, 4, 7) := ⟨by decide, by decide, lw_gi 164 rfl rfl⟩
set_option maxRecDepth 100000 in
theorem lf_41 : okF (4, 9, 4, 7) := ⟨by decide, by decide, lw_gi 160 rfl rfl⟩
set_option maxRecDepth 100000 in
theorem lf_42 : okF (4, 15, 4, 8) := ⟨by decide, by decide, lw_gi 165 rfl rfl⟩
set_option maxRecDepth 100000 in
theorem lf_43 : okF (4, 18, 4, 9) := ⟨by decide, by decide, lw_gi 169 rfl rfl⟩
set_option maxRecDepth 100000 in
theorem lf_44 : okF (4, 21, 4, 10) := ⟨by decide, by decide, lw_gi 172 rfl rfl⟩
set_option maxRecDepth 100000 in
theorem lf_45 : okF (4, 24, 4, 11) := ⟨by decide, by decide, lw_gi 176 rfl rfl⟩
set_option maxRecDepth 100000 in
theorem lf_46 : okF (4, 27, 4, 12) := ⟨by decide, by decide, lw_gi 180 rfl rfl⟩
set_option maxRecDepth 100000 in
theorem lf_47 : okF (4, 30, 4, 13) := ⟨by decide, by decide, lw_gi 183 rfl rfl⟩
set_option maxRecDepth 100000 in
theorem lf_48 : okF (4, 36, 4, 0) := ⟨by decide, by decide, lw_gi 133 rfl rfl⟩
set_option maxRecDepth 100000 in
theorem lf_49 : okF (4, 40, 4, 1) := ⟨by decide, by decide, lw_gi 137 rfl rfl⟩
set_option maxRecDepth 100000 in
theorem lf_50 : okF (4, 43, 4, 2) := ⟨by decide, by decide, lw_gi 141 rfl rfl⟩
set_option maxRecDepth 100000 in
theorem lf_51 : okF (4, 46, 4, 3) := ⟨by decide, by decide, lw_gi 146 rfl rfl⟩
set_option maxRecDepth 100000 in
theorem lf_52 : okF (4, 49, 4, 4) := ⟨by decide, by decide, lw_gi 150 rfl rfl⟩
set_option maxRecDepth 100000 in
theorem lf_53 : okF (4, 52, 4, 5) := ⟨by decide, by decide, lw_gi 154 rfl rfl⟩
set_option maxRecDepth 100000 in
theorem lf_54 : okF (4, 55, 4, 6) := ⟨by decide, by decide, lw_gi 157 rfl rfl⟩
set_option maxRecDepth 100000 in
theorem lf_55 : okF (5, 9, 5, 0) := ⟨by decide, by decide, lw_gi 253 rfl rfl⟩
set_option maxRecDepth 100000 in
theorem lf_56 : okF (5, 15, 5, 1) := ⟨by decide, by decide, lw_gi 254 rfl rfl⟩
set_option maxRecDepth 100000 in
theorem lf_57 : okF (5, 18, 5, 2) := ⟨by decide, by decide, lw_gi 255 rfl rfl⟩
set_option maxRecDepth 100000 in
theorem lf_58 : okF (5, 21, 5, 3) := ⟨by decide, by decide, lw_gi 257 rfl rfl⟩
set_option maxRecDepth 100000 in
theorem lf_59 : okF (5, 24, 5, 4) := ⟨by decide, by decide, lw_gi 259 rfl rfl⟩
set_option maxRecDepth 100000 in
theorem lf_60 : okF (5, 27, 4, 3) := ⟨by decide, by decide, lw_gi 145 rfl rfl⟩
set_option maxRecDepth 100000 in
theorem lf_61 : okF (5, 33, 4, 7) := ⟨by decide, by decide, lw_gi 161 rfl rfl⟩
set_option maxRecDepth 100000 in
theorem lf_62 : okF (5, 43, 4, 8) := ⟨by decide, by decide, lw_gi 166 rfl rfl⟩
set_option maxRecDepth 100000 in
theorem lf_63 : okF (5, 50, 4, 9) := ⟨by decide, by decide, lw_gi 170 rfl rfl⟩
set_option maxRecDepth 100000 in
theorem lf_64 : okF (5, 62, 4, 11) := ⟨by decide, by decide, lw_gi 177 rfl rfl⟩
set_option maxRecDepth 100000 in
theorem lf_65 : okF (5, 80, 4, 5) := ⟨by decide, by decide, lw_gi 155 rfl rfl⟩
set_option maxRecDepth 100000 in
theorem lf_66 : okF (5, 90, 5, 5) := ⟨by decide, by decide, lw_gi 262 rfl rfl⟩
set_option maxRecDepth 100000 in
theorem lf_67 : okF (5, 93, 5, 6) := ⟨by decide, by decide, lw_gi 264 rfl rfl⟩
set_option maxRecDepth 100000 in
theorem lf_68 : okF (5, 96, 4, 2) := ⟨by decide, by decide, lw_gi 143 rfl rfl⟩
set_option maxRecDepth 100000 in
theorem lf_69 : okF (5, 99, 4, 0) := ⟨by decide, by decide, lw_gi 135 rfl rfl⟩
set_option maxRecDepth 100000 in
theorem lf_70 : okF (5, 102, 4, 1) := ⟨by decide, by decide, lw_gi 139 rfl rfl⟩
set_option maxRecDepth 100000 in
theorem lf_71 : okF (5, 105, 4, 4) := ⟨by decide, by decide, lw_gi 152 rfl rfl⟩
set_option maxRecDepth 100000 in
theorem lf_72 : okF (6, 12, 6, 0) := ⟨by decide, by decide, lw_gi 319 rfl rfl⟩
set_option maxRecDepth 100000 in
theorem lf_73 : okF (6, 21, 6, 1) := ⟨by decide, by decide, lw_gi 320 rfl rfl⟩
set_option maxRecDepth 100000 in
theorem lf_74 : okF (6, 28, 6, 2) := ⟨by decide, by decide, lw_gi 321 rfl rfl⟩
set_option maxRecDepth 100000 in
theorem lf_75 : okF (6, 35, 6, 3) := ⟨by decide, by decide, lw_gi 322 rfl rfl⟩
set_option maxRecDepth 100000 in
theorem lf_76 : okF (6, 44, 6, 4) := ⟨by decide, by decide, lw_gi 323 rfl rfl⟩
set_option maxRecDepth 100000 in
theorem lf_77 : okF (6, 48, 6, 5) := ⟨by decide, by decide, lw_gi 324 rfl rfl⟩
set_option maxRecDepth 100000 in
theorem lf_78 : okF (6, 54, 6, 6) := ⟨by decide, by decide, lw_gi 325 rfl rfl⟩
set_option maxRecDepth 100000 in
theorem lf_79 : okF (6, 63, 2, 1) := ⟨by decide, by decide, lw_gi 91 rfl rfl⟩
set_option maxRecDepth 100000 in
theorem lf_80 : okF (6, 70, 3, 2) := ⟨by decide, by decide, lw_gi 221 rfl rfl⟩
set_option maxRecDepth 100000 in
theorem lf_81 : okF (6, 73, 3, 3) := ⟨by decide, by decide, lw_gi 223 rfl rfl⟩
set_option maxRecDepth 100000 in
theorem lf_82 : okF (6, 76, 3, 0) := ⟨by decide, by decide, lw_gi 217 rfl rfl⟩
set_option maxRecDepth 100000 in
theorem lf_83 : okF (6, 83, 6, 7) := ⟨by decide, by decide, lw_gi 326 rfl rfl⟩
set_option maxRecDepth 100000 in
theorem lf_84 : okF (6, 86, 3, 1) := ⟨by decide, by decide, lw_gi 219 rfl rfl⟩
set_option maxRecDepth 100000 in
theorem lf_85 : okF (6, 89, 4, 0) := ⟨by decide, by decide, lw_gi 134 rfl rfl⟩
set_option maxRecDepth 100000 in
theorem lf_86 : okF (6, 92, 4, 1) := ⟨by decide, by decide, lw_gi 138 rfl rfl⟩
set_option maxRecDepth 100000 in
theorem lf_87 : okF (6, 95, 4, 2) := ⟨by decide, by decide, lw_gi 142 rfl rfl⟩
set_option maxRecDepth 100000 in
theorem lf_88 : okF (6, 98, 4, 3) := ⟨by decide, by decide, lw_gi 148 rfl rfl⟩
set_option maxRecDepth 100000 in
theorem lf_89 : okF (6, 101, 4, 4) := ⟨by decide, by decide, lw_gi 151 rfl rfl⟩
set_option maxRecDepth 100000 in
theorem lf_90 : okF (6, 104, 4, 5) := ⟨by decide, by decide, lw_gi 156 rfl rfl⟩
set_option maxRecDepth 100000 in
theorem lf_91 : okF (6, 107, 4, 11) := ⟨by decide, by decide, lw_gi 178 rfl rfl⟩
set_option maxRecDepth 100000 in
theorem lf_92 : okF (6, 114, 4, 7) := ⟨by decide, by decide, lw_gi 162 rfl rfl⟩
set_option maxRecDepth 100000 in
theorem lf_93 : okF (6, 117, 4, 8) := ⟨by decide, by decide, lw_gi 167 rfl rfl⟩
set_option maxRecDepth 100000 in
theorem lf_94 : okF (6, 120, 4, 9) := ⟨by decide, by decide, lw_gi 171 rfl rfl⟩
set_option maxRecDepth 100000 in
theorem lf_95 : okF (6, 123, 4, 10) := ⟨by decide, by decide, lw_gi 173 rfl rfl⟩
set_option maxRecDepth 100000 in
theorem lf_96 : okF (6, 149, 5, 2) := ⟨by decide, by decide, lw_gi 256 rfl rfl⟩
set_option maxRecDepth 100000 in
theorem lf_97 : okF (6, 152, 5, 3) := ⟨by decide, by decide, lw_gi 258 rfl rfl⟩
set_option maxRecDepth 100000 in
theorem lf_98 : okF (6, 155, 5, 4) := ⟨by decide, by decide, lw_gi 261 rfl rfl⟩
set_option maxRecDepth 100000 in
theorem lf_99 : okF (6, 240, 4, 6) := ⟨by decide, by decide, lw_gi 159 rfl rfl⟩
set_option maxRecDepth 100000 in
theorem lf_100 : okF (6, 243, 4, 12) := ⟨by decide, by decide, lw_gi 182 rfl rfl⟩
set_option maxRecDepth 100000 in
theorem lf_101 : okF (6, 246, 4, 13) := ⟨by decide, by decide, lw_gi 185 rfl rfl⟩
set_option maxRecDepth 100000 in
theorem lf_102 : okF (6, 284, 1, 0) := ⟨by decide, by decide, lw_gi 308 rfl rfl⟩
set_option maxRecDepth 100000 in
theorem lf_103 : okF (6, 287, 6, 8) := ⟨by decide, by decide, lw_gi 327 rfl rfl⟩
set_option maxRecDepth 100000 in
theorem lf_104 : okF (6, 302, 1, 1) := ⟨by decide, by decide, lw_gi 310 rfl rfl⟩
set_option maxRecDepth 100000 in
theorem lf_105 : okF (7, 7, 7, 0) := ⟨by decide, by decide, lw_gi 985 rfl rfl⟩
set_option maxRecDepth 100000 in
theorem lf_106 : okF (7, 13, 7, 1) := ⟨by decide, by decide, lw_gi 986 rfl rfl⟩
set_option maxRecDepth 100000 in
theorem lf_107 : okF (7, 17, 7, 5) := ⟨by decide, by decide, lw_gi 990 rfl rfl⟩
set_option maxRecDepth 100000 in
theorem lf_108 : okF (7, 20, 7, 12) := ⟨by decide, by decide, lw_gi 997 rfl rfl⟩
set_option maxRecDepth 100000 in
theorem lf_109 : okF (7, 23, 7, 20) := ⟨by decide, by decide, lw_gi 1005 rfl rfl⟩
set_option maxRecDepth 100000 in
theorem lf_110 : okF (7, 26, 7, 21) := ⟨by decide, by decide, lw_gi 1006 rfl rfl⟩
set_option maxRecDepth 100000 in
theorem lf_111 : okF (7, 29, 7, 22) := ⟨by decide, by decide, lw_gi 1007 rfl rfl⟩
set_option maxRecDepth 100000 in
theorem lf_112 : okF (7, 32, 7, 23) := ⟨by decide, by decide, lw_gi 1008 rfl rfl⟩
set_option maxRecDepth 100000 in
theorem lf_113 : okF (7, 35, 7, 24) := ⟨by decide, by decide, lw_gi 1009 rfl rfl⟩
set_option maxRecDepth 100000 in
theorem lf_114 : okF (7, 38, 7, 25) := ⟨by decide, by decide, lw_gi 1010 rfl rfl⟩
set_option maxRecDepth 100000 in
theorem lf_115 : okF (7, 41, 7, 26) := ⟨by decide, by decide, lw_gi 1011 rfl rfl⟩
set_option maxRecDepth 100000 in
theorem lf_116 : okF (7, 44, 7, 28) := ⟨by decide, by decide, lw_gi 1013 rfl rfl⟩
set_option maxRecDepth 100000 in
theorem lf_117 : okF (7, 47, 7, 29) := ⟨by decide, by decide, lw_gi 1014 rfl rfl⟩
set_option maxRecDepth 100000 in
theorem lf_118 : okF (7, 50, 7, 30) := ⟨by decide, by decide, lw_gi 1015 rfl rfl⟩
set_option maxRecDepth 100000 in
theorem lf_119 : okF (7, 53, 7, 31) := ⟨by decide, by decide, lw_gi 1016 rfl rfl⟩
set_option maxRecDepth 100000 in
theorem lf_120 : okF (7, 56, 7, 32) := ⟨by decide, by decide, lw_gi 1017 rfl rfl⟩
set_option maxRecDepth 100000 in
theorem lf_121 : okF (7, 59, 7, 34) := ⟨by decide, by decide, lw_gi 1019 rfl rfl⟩
set_option maxRecDepth 100000 in
theorem lf_122 : okF (7, 68, 7, 6) := ⟨by decide, by decide, lw_gi 991 rfl rfl⟩
set_option maxRecDepth 100000 in
theorem lf_123 : okF (7, 72, 7, 7) := ⟨by decide, by decide, lw_gi 992 rfl rfl⟩
set_option maxRecDepth 100000 in
theorem lf_124 : okF (7, 75, 7, 8) := ⟨by decide, by decide, lw_gi 993 rfl rfl⟩
set_option maxRecDepth 100000 in
theorem lf_125 : okF (7, 78, 7, 9) := ⟨by decide, by decide, lw_gi 994 rfl rfl⟩
set_option maxRecDepth 100000 in
theorem lf_126 : okF (7, 81, 7, 10) := ⟨by decide, by decide, lw_gi 995 rfl rfl⟩
set_option maxRecDepth 100000 in
theorem lf_127 : okF (7, 84, 7, 11) := ⟨by decide, by decide, lw_gi 996 rfl rfl⟩
set_option maxRecDepth 100000 in
theorem lf_128 : okF (7, 87, 7, 2) := ⟨by decide, by decide, lw_gi 987 rfl rfl⟩
set_option maxRecDepth 100000 in
theorem lf_129 : okF (7, 90, 7, 3) := ⟨by decide, by decide, lw_gi 988 rfl rfl⟩
set_option maxRecDepth 100000 in
theorem lf_130 : okF (7, 93, 7, 4) := ⟨by decide, by decide, lw_gi 989 rfl rfl⟩
set_option maxRecDepth 100000 in
theorem lf_131 : okF (7, 102, 7, 13) := ⟨by decide, by decide, lw_gi 998 rfl rfl⟩
set_option maxRecDepth 100000 in
theorem lf_132 : okF (7, 105, 7, 18) := ⟨by decide, by decide, lw_gi 1003 rfl rfl⟩
set_option maxRecDepth 100000 in
theorem lf_133 : okF (7, 108, 7, 15) := ⟨by decide, by decide, lw_gi 1000 rfl rfl⟩
set_option maxRecDepth 100000 in
theorem lf_134 : okF (7, 111, 7, 19) := ⟨by decide, by decide, lw_gi 1004 rfl rfl⟩
set_option maxRecDepth 100000 in
theorem lf_135 : okF (7, 114, 7, 14) := ⟨by decide, by decide, lw_gi 999 rfl rfl⟩
set_option maxRecDepth 100000 in
theorem lf_136 : okF (7, 128, 7, 16) := ⟨by decide, by decide, lw_gi 1001 rfl rfl⟩
set_option maxRecDepth 100000 in
theorem lf_137 : okF (7, 139, 7, 17) := ⟨by decide, by decide, lw_gi 1002 rfl rfl⟩
set_option maxRecDepth 100000 in
theorem lf_138 : okF (7, 180, 7, 27) := ⟨by decide, by decide, lw_gi 1012 rfl rfl⟩
set_option maxRecDepth 100000 in
theorem lf_139 : okF (7, 283, 7, 33) := ⟨by decide, by decide, lw_gi 1018 rfl rfl⟩
def lkF_0 : List (Nat × Nat × Nat × Nat) := [(0, 9, 0, 0), (0, 18, 0, 1), (0, 22, 0, 2), (0, 39, 4, 3), (0, 43, 5, 4), (0, 94, 4, 7), (0, 105, 4, 8), (0, 115, 4, 10), (0, 145, 4, 6), (0, 148, 4, 12), (0, 154, 4, 13), (0, 158, 5, 5), (1, 9, 1, 0), (1, 15, 1, 1), (1, 19, 1, 2), (2, 9, 2, 0)]
theorem lkF_o0 : ∀ q ∈ lkF_0, okF q := List.forall_mem_cons.mpr ⟨lf_0, List.forall_mem_cons.mpr ⟨lf_1, List.forall_mem_cons.mpr ⟨lf_2, List.forall_mem_cons.mpr ⟨lf_3, List.forall_mem_cons.mpr ⟨lf_4, List.forall_mem_cons.mpr ⟨lf_5, List.forall_mem_cons.mpr ⟨lf_6, List.forall_mem_cons.mpr ⟨lf_7, List.forall_mem_cons.mpr ⟨lf_8, List.forall_mem_cons.mpr ⟨lf_9, List.forall_mem_cons.mpr ⟨lf_10, List.forall_mem_cons.mpr ⟨lf_11, List.forall_mem_cons.mpr ⟨lf_12, List.forall_mem_cons.mpr ⟨lf_13, List.forall_mem_cons.mpr ⟨lf_14, List.forall_mem_cons.mpr ⟨lf_15, fun _ h => absurd h List.not_mem_nil⟩⟩⟩⟩⟩⟩⟩⟩⟩⟩⟩⟩⟩⟩⟩⟩
def lkF_1 : List (Nat × Nat × Nat × Nat) := [(2, 15, 2, 1), (2, 19, 2, 5), (2, 22, 2, 3), (2, 25, 2, 2), (2, 35, 2, 4), (3, 9, 3, 4), (3, 18, 3, 0), (3, 25, 3, 1), (3, 29, 3, 2), (3, 32, 3, 3), (3, 35, 3, 5), (3, 39, 3, 6), (3, 42, 3, 7), (3, 53, 2, 2), (3, 66, 2, 1), (3, 73, 2, 3)]
theorem lkF_o1 : ∀ q ∈ lkF_1, okF q := List.forall_mem_cons.mpr ⟨lf_16, List.forall_mem_cons.mpr ⟨lf_17, List.forall_mem_cons.mpr ⟨lf_18, List.forall_mem_cons.mpr ⟨lf_19, List.forall_mem_cons.mpr ⟨lf_20, List.forall_mem_cons.mpr ⟨lf_21, List.forall_mem_cons.mpr ⟨lf_22, List.forall_mem_cons.mpr ⟨lf_23, List.forall_mem_cons.mpr ⟨lf_24, List.forall_mem_cons.mpr ⟨lf_25, List.forall_mem_cons.mpr ⟨lf_26, List.forall_mem_cons.mpr ⟨lf_27, List.forall_mem_cons.mpr ⟨lf_28, List.forall_mem_cons.mpr ⟨lf_29, List.forall_mem_cons.mpr ⟨lf_30, List.forall_mem_cons.mpr ⟨lf_31, fun _ h => absurd h List.not_mem_nil⟩⟩⟩⟩⟩⟩⟩⟩⟩⟩⟩⟩⟩⟩⟩⟩
def lkF_2 : List (Nat × Nat × Nat × Nat) := [(3, 117, 2, 4), (3, 131, 4, 0), (3, 134, 4, 1), (3, 140, 4, 2), (3, 143, 4, 3), (3, 150, 4, 11), (3, 154, 4, 4), (3, 156, 4, 10), (3, 159, 4, 7), (4, 9, 4, 7), (4, 15, 4, 8), (4, 18, 4, 9), (4, 21, 4, 10), (4, 24, 4, 11), (4, 27, 4, 12), (4, 30, 4, 13)]
theorem lkF_o2 : ∀ q ∈ lkF_2, okF q := List.forall_mem_cons.mpr ⟨lf_32, List.forall_mem_cons.mpr ⟨lf_33, List.forall_mem_cons.mpr ⟨lf_34, List.forall_mem_cons.mpr ⟨lf_35, List.forall_mem_cons.mpr ⟨lf_36, List.forall_mem_cons.mpr ⟨lf_37, List.forall_mem_cons.mpr ⟨lf_38, List.forall_mem_cons.mpr ⟨lf_39, List.forall_mem_cons.mpr ⟨lf_40, List.forall_mem_cons.mpr ⟨lf_41, List.forall_mem_cons.mpr ⟨lf_42, List.forall_mem_cons.mpr ⟨lf_43, List.forall_mem_cons.mpr ⟨lf_44, List.forall_mem_cons.mpr ⟨lf_45, List.forall_mem_cons.mpr ⟨lf_46, List.forall_mem_cons.mpr ⟨lf_47, fun _ h => absurd h List.not_mem_nil⟩⟩⟩⟩⟩⟩⟩⟩⟩⟩⟩⟩⟩⟩⟩⟩
def lkF_3 : List (Nat × Nat × Nat × Nat) := [(4, 36, 4, 0), (4, 40, 4, 1), (4, 43, 4, 2), (4, 46, 4, 3), (4, 49, 4, 4), (4, 52, 4, 5), (4, 55, 4, 6), (5, 9, 5, 0), (5, 15, 5, 1), (5, 18, 5, 2), (5, 21, 5, 3), (5, 24, 5, 4), (5, 27, 4, 3), (5, 33, 4, 7), (5, 43, 4, 8), (5, 50, 4, 9)]
theorem lkF_o3 : ∀ q ∈ lkF_3, okF q := List.forall_mem_cons.mpr ⟨lf_48, List.forall_mem_cons.mpr ⟨lf_49, List.forall_mem_cons.mpr ⟨lf_50, List.forall_mem_cons.mpr ⟨lf_51, List.forall_mem_cons.mpr ⟨lf_52, List.forall_mem_cons.mpr ⟨lf_53, List.forall_mem_cons.mpr ⟨lf_54, List.forall_mem_cons.mpr ⟨lf_55, List.forall_mem_cons.mpr ⟨lf_56, List.forall_mem_cons.mpr ⟨lf_57, List.forall_mem_cons.mpr ⟨lf_58, List.forall_mem_cons.mpr ⟨lf_59, List.forall_mem_cons.mpr ⟨lf_60, List.forall_mem_cons.mpr ⟨lf_61, List.forall_mem_cons.mpr ⟨lf_62, List.forall_mem_cons.mpr ⟨lf_63, fun _ h => absurd h List.not_mem_nil⟩⟩⟩⟩⟩⟩⟩⟩⟩⟩⟩⟩⟩⟩⟩⟩
def lkF_4 : List (Nat × Nat × Nat × Nat) := [(5, 62, 4, 11), (5, 80, 4, 5), (5, 90, 5, 5), (5, 93, 5, 6), (5, 96, 4, 2), (5, 99, 4, 0), (5, 102, 4, 1), (5, 105, 4, 4), (6, 12, 6, 0), (6, 21, 6, 1), (6, 28, 6, 2), (6, 35, 6, 3), (6, 44, 6, 4), (6, 48, 6, 5), (6, 54, 6, 6), (6, 63, 2, 1)]
theorem lkF_o4 : ∀ q ∈ lkF_4, okF q := List.forall_mem_cons.mpr ⟨lf_64, List.forall_mem_cons.mpr ⟨lf_65, List.forall_mem_cons.mpr ⟨lf_66, List.forall_mem_cons.mpr ⟨lf_67, List.forall_mem_cons.mpr ⟨lf_68, List.forall_mem_cons.mpr ⟨lf_69, List.forall_mem_cons.mpr ⟨lf_70, List.forall_mem_cons.mpr ⟨lf_71, List.forall_mem_cons.mpr ⟨lf_72, List.forall_mem_cons.mpr ⟨lf_73, List.forall_mem_cons.mpr ⟨lf_74, List.forall_mem_cons.mpr ⟨lf_75, List.forall_mem_cons.mpr ⟨lf_76, List.forall_mem_cons.mpr ⟨lf_77, List.forall_mem_cons.mpr ⟨lf_78, List.forall_mem_cons.mpr ⟨lf_79, fun _ h => absurd h List.not_mem_nil⟩⟩⟩⟩⟩⟩⟩⟩⟩⟩⟩⟩⟩⟩⟩⟩
def lkF_5 : List (Nat × Nat × Nat × Nat) := [(6, 70, 3, 2), (6, 73, 3, 3), (6, 76, 3, 0), (6, 83, 6, 7), (6, 86, 3, 1), (6, 89, 4, 0), (6, 92, 4, 1), (6, 95, 4, 2), (6, 98, 4, 3), (6, 101, 4, 4), (6, 104, 4, 5), (6, 107, 4, 11), (6, 114, 4, 7), (6, 117, 4, 8), (6, 120, 4, 9), (6, 123, 4, 10)]
theorem lkF_o5 : ∀ q ∈ lkF_5, okF q := List.forall_mem_cons.mpr ⟨lf_80, List.forall_mem_cons.mpr ⟨lf_81, List.forall_mem_cons.mpr ⟨lf_82, List.forall_mem_cons.mpr ⟨lf_83, List.forall_mem_cons.mpr ⟨lf_84, List.forall_mem_cons.mpr ⟨lf_85, List.forall_mem_cons.mpr ⟨lf_86, List.forall_mem_cons.mpr ⟨lf_87, List.forall_mem_cons.mpr ⟨lf_88, List.forall_mem_cons.mpr ⟨lf_89, List.forall_mem_cons.mpr ⟨lf_90, List.forall_mem_cons.mpr ⟨lf_91, List.forall_mem_cons.mpr ⟨lf_92, List.forall_mem_cons.mpr ⟨lf_93, List.forall_mem_cons.mpr ⟨lf_94, List.forall_mem_cons.mpr ⟨lf_95, fun _ h => absurd h List.not_mem_nil⟩⟩⟩⟩⟩⟩⟩⟩⟩⟩⟩⟩⟩⟩⟩⟩
def lkF_6 : List (Nat × Nat × Nat × Nat) := [(6, 149, 5, 2), (6, 152, 5, 3), (6, 155, 5, 4), (6, 240, 4, 6), (6, 243, 4, 12), (6, 246, 4, 13), (6, 284, 1, 0), (6, 287, 6, 8), (6, 302, 1, 1), (7, 7, 7, 0), (7, 13, 7, 1), (7, 17, 7, 5), (7, 20, 7, 12), (7, 23, 7, 20), (7, 26, 7, 21), (7, 29, 7, 22)]
theorem lkF_o6 : ∀ q ∈ lkF_6, okF q := List.forall_mem_cons.mpr ⟨lf_96, List.forall_mem_cons.mpr ⟨lf_97, List.forall_mem_cons.mpr ⟨lf_98, List.forall_mem_cons.mpr ⟨lf_99, List.forall_mem_cons.mpr ⟨lf_100, List.forall_mem_cons.mpr ⟨lf_101, List.forall_mem_cons.mpr ⟨lf_102, List.forall_mem_cons.mpr ⟨lf_103, List.forall_mem_cons.mpr ⟨lf_104, List.forall_mem_cons.mpr ⟨lf_105, List.forall_mem_cons.mpr ⟨lf_106, List.forall_mem_cons.mpr ⟨lf_107, List.forall_mem_cons.mpr ⟨lf_108, List.forall_mem_cons.mpr ⟨lf_109, List.forall_mem_cons.mpr ⟨lf_110, List.forall_mem_cons.mpr ⟨lf_111, fun _ h => absurd h List.not_mem_nil⟩⟩⟩⟩⟩⟩⟩⟩⟩⟩⟩⟩⟩⟩⟩⟩
def lkF_7 : List (Nat × Nat × Nat × Nat) := [(7, 32, 7, 23), (7, 35, 7, 24), (7, 38, 7, 25), (7, 41, 7, 26), (7, 44, 7, 28), (7, 47, 7, 29), (7, 50, 7, 30), (7, 53, 7, 31), (7, 56, 7, 32), (7, 59, 7, 34), (7, 68, 7, 6), (7, 72, 7, 7), (7, 75, 7, 8), (7, 78, 7, 9), (7, 81, 7, 10), (7, 84, 7, 11)]
theorem lkF_o7 : ∀ q ∈ lkF_7, okF q := List.forall_mem_cons.mpr ⟨lf_112, List.forall_mem_cons.mpr ⟨lf_113, List.forall_mem_cons.mpr ⟨lf_114, List.forall_mem_cons.mpr ⟨lf_115, List.forall_mem_cons.mpr ⟨lf_116, List.forall_mem_cons.mpr ⟨lf_117, List.forall_mem_cons.mpr ⟨lf_118, List.forall_mem_cons.mpr ⟨lf_119, List.forall_mem_cons.mpr ⟨lf_120, List.forall_mem_cons.mpr ⟨lf_121, List.forall_mem_cons.mpr ⟨lf_122, List.forall_mem_cons.mpr ⟨lf_123, List.forall_mem_cons.mpr ⟨lf_124, List.forall_mem_cons.mpr ⟨lf_125, List.forall_mem_cons.mpr ⟨lf_126, List.forall_mem_cons.mpr ⟨lf_127, fun _ h => absurd h List.not_mem_nil⟩⟩⟩⟩⟩⟩⟩⟩⟩⟩⟩⟩⟩⟩⟩⟩
def lkF_8 : List (Nat × Nat × Nat × Nat) := [(7, 87, 7, 2), (7, 90, 7, 3), (7, 93, 7, 4), (7, 102, 7, 13), (7, 105, 7, 18), (7, 108, 7, 15), (7, 111, 7, 19), (7, 114, 7, 14), (7, 128, 7, 16), (7, 139, 7, 17), (7, 180, 7, 27), (7, 283, 7, 33)]
theorem lkF_o8 : ∀ q ∈ lkF_8, okF q := List.forall_mem_cons.mpr ⟨lf_128, List.forall_mem_cons.mpr ⟨lf_129, List.forall_mem_cons.mpr ⟨lf_130, List.forall_mem_cons.mpr ⟨lf_131, List.forall_mem_cons.mpr ⟨lf_132, List.forall_mem_cons.mpr ⟨lf_133, List.forall_mem_cons.mpr ⟨lf_134, List.forall_mem_cons.mpr ⟨lf_135, List.forall_mem_cons.mpr ⟨lf_136, List.forall_mem_cons.mpr ⟨lf_137, List.forall_mem_cons.mpr ⟨lf_138, List.forall_mem_cons.mpr ⟨lf_139, fun _ h => absurd h List.not_mem_nil⟩⟩⟩⟩⟩⟩⟩⟩⟩⟩⟩⟩
def lkF : List (Nat × Nat × Nat × Nat) := lkF_0 ++ (lkF_1 ++ (lkF_2 ++ (lkF_3 ++ (lkF_4 ++ (lkF_5 ++ (lkF_6 ++ (lkF_7 ++ (lkF_8))))))))
theorem lkF_ok : ∀ q ∈ lkF, okF q := List.forall_mem_append.mpr ⟨lkF_o0, List.forall_mem_append.mpr ⟨lkF_o1, List.forall_mem_append.mpr ⟨lkF_o2, List.forall_mem_append.mpr ⟨lkF_o3, List.forall_mem_append.mpr ⟨lkF_o4, List.forall_mem_append.mpr ⟨lkF_o5, List.forall_mem_append.mpr ⟨lkF_o6, List.forall_mem_append.mpr ⟨lkF_o7, lkF_o8⟩⟩⟩⟩⟩⟩⟩⟩
def okM (q : Nat × Nat × Nat × Nat) : Prop := ∃ m2, pm_m q.2.2.1 = some m2 ∧ pm_hk q.2.2.2 m2 ∧ Cond.methodLink (kN q.1) q.2.1 (pm_y m2) ∈ lw_gt
set_option maxRecDepth 100000 in
theorem lm_0 : okM (0, 17, 4, 1) := ⟨m_4, rfl, hk_4, lw_gi 287 rfl rfl⟩
set_option maxRecDepth 100000 in
theorem lm_1 : okM (0, 26, 41, 0) := ⟨m_41, rfl, hk_41, lw_gi 638 rfl rfl⟩
set_option maxRecDepth 100000 in
theorem lm_2 : okM (0, 30, 76, 0) := ⟨m_76, rfl, hk_76, lw_gi 693 rfl rfl⟩
set_option maxRecDepth 100000 in
theorem lm_3 : okM (0, 36, 68, 0) := ⟨m_68, rfl, hk_68, lw_gi 639 rfl rfl⟩
set_option maxRecDepth 100000 in
theorem lm_4 : okM (0, 47, 73, 0) := ⟨m_73, rfl, hk_73, lw_gi 659 rfl rfl⟩
set_option maxRecDepth 100000 in
theorem lm_5 : okM (0, 51, 83, 0) := ⟨m_83, rfl, hk_83, lw_gi 702 rfl rfl⟩
set_option maxRecDepth 100000 in
theorem lm_6 : okM (0, 55, 77, 0) := ⟨m_77, rfl, hk_77, lw_gi 706 rfl rfl⟩
set_option maxRecDepth 100000 in
theorem lm_7 : okM (0, 58, 86, 0) := ⟨m_86, rfl, hk_86, lw_gi 715 rfl rfl⟩
set_option maxRecDepth 100000 in
theorem lm_8 : okM (0, 66, 94, 0) := ⟨m_94, rfl, hk_94, lw_gi 744 rfl rfl⟩
set_option maxRecDepth 100000 in
theorem lm_9 : okM (0, 69, 97, 0) := ⟨m_97, rfl, hk_97, lw_gi 755 rfl rfl⟩
set_option maxRecDepth 100000 in
theorem lm_10 : okM (0, 73, 42, 0) := ⟨m_42, rfl, hk_42, lw_gi 759 rfl rfl⟩
set_option maxRecDepth 100000 in
theorem lm_11 : okM (0, 76, 98, 0) := ⟨m_98, rfl, hk_98, lw_gi 760 rfl rfl⟩
set_option maxRecDepth 100000 in
theorem lm_12 : okM (0, 80, 99, 0) := ⟨m_99, rfl, hk_99, lw_gi 764 rfl rfl⟩
set_option maxRecDepth 100000 in
theorem lm_13 : okM (0, 83, 103, 0) := ⟨m_103, rfl, hk_103, lw_gi 783 rfl rfl⟩
set_option maxRecDepth 100000 in
theorem lm_14 : okM (0, 86, 39, 0) := ⟨m_39, rfl, hk_39, lw_gi 795 rfl rfl⟩
set_option maxRecDepth 100000 in
theorem lm_15 : okM (0, 90, 50, 0) := ⟨m_50, rfl, hk_50, lw_gi 796 rfl rfl⟩
set_option maxRecDepth 100000 in
theorem lm_16 : okM (0, 97, 108, 0) := ⟨m_108, rfl, hk_108, lw_gi 805 rfl rfl⟩
set_option maxRecDepth 100000 in
theorem lm_17 : okM (0, 101, 109, 0) := ⟨m_109, rfl, hk_109, lw_gi 810 rfl rfl⟩
set_option maxRecDepth 100000 in
theorem lm_18 : okM (0, 112, 28, 0) := ⟨m_28, rfl, hk_28, lw_gi 826 rfl rfl⟩
set_option maxRecDepth 100000 in
theorem lm_19 : okM (0, 118, 32, 0) := ⟨m_32, rfl, hk_32, lw_gi 827 rfl rfl⟩
set_option maxRecDepth 100000 in
theorem lm_20 : okM (0, 122, 78, 0) := ⟨m_78, rfl, hk_78, lw_gi 828 rfl rfl⟩
set_option maxRecDepth 100000 in
theorem lm_21 : okM (0, 125, 88, 2) := ⟨m_88, rfl, hk_88, lw_gi 829 rfl rfl⟩
set_option maxRecDepth 100000 in
theorem lm_22 : okM (0, 128, 114, 2) := ⟨m_114, rfl, hk_114, lw_gi 839 rfl rfl⟩
set_option maxRecDepth 100000 in
theorem lm_23 : okM (0, 132, 115, 0) := ⟨m_115, rfl, hk_115, lw_gi 842 rfl rfl⟩
set_option maxRecDepth 100000 in
theorem lm_24 : okM (0, 138, 122, 0) := ⟨m_122, rfl, hk_122, lw_gi 871 rfl rfl⟩
set_option maxRecDepth 100000 in
theorem lm_25 : okM (0, 142, 95, 0) := ⟨m_95, rfl, hk_95, lw_gi 884 rfl rfl⟩
set_option maxRecDepth 100000 in
theorem lm_26 : okM (0, 151, 123, 0) := ⟨m_123, rfl, hk_123, lw_gi 875 rfl rfl⟩
set_option maxRecDepth 100000 in
theorem lm_27 : okM (0, 161, 127, 2) := ⟨m_127, rfl, hk_127, lw_gi 894 rfl rfl⟩
set_option maxRecDepth 100000 in
theorem lm_28 : okM (1, 22, 6, 2) := ⟨m_6, rfl, hk_6, lw_gi 922 rfl rfl⟩
set_option maxRecDepth 100000 in
theorem lm_29 : okM (1, 28, 136, 0) := ⟨m_136, rfl, hk_136, lw_gi 931 rfl rfl⟩
set_option maxRecDepth 100000 in
theorem lm_30 : okM (1, 32, 135, 0) := ⟨m_135, rfl, hk_135, lw_gi 951 rfl rfl⟩
set_option maxRecDepth 100000 in
theorem lm_31 : okM (2, 28, 17, 2) := ⟨m_17, rfl, hk_17, lw_gi 376 rfl rfl⟩
set_option maxRecDepth 100000 in
theorem lm_32 : okM (2, 32, 18, 0) := ⟨m_18, rfl, hk_18, lw_gi 379 rfl rfl⟩
set_option maxRecDepth 100000 in
theorem lm_33 : okM (3, 17, 4, 1) := ⟨m_4, rfl, hk_4, lw_gi 122 rfl rfl⟩
set_option maxRecDepth 100000 in
theorem lm_34 : okM (3, 22, 5, 0) := ⟨m_5, rfl, hk_5, lw_gi 367 rfl rfl⟩
set_option maxRecDepth 100000 in
theorem lm_35 : okM (3, 45, 15, 0) := ⟨m_15, rfl, hk_15, lw_gi 368 rfl rfl⟩
set_option maxRecDepth 100000 in
theorem lm_36 : okM (3, 50, 16, 0) := ⟨m_16, rfl, hk_16, lw_gi 372 rfl rfl⟩
set_option maxRecDepth 100000 in
theorem lm_37 : okM (3, 56, 19, 0) := ⟨m_19, rfl, hk_19, lw_gi 383 rfl rfl⟩
set_option maxRecDepth 100000 in
theorem lm_38 : okM (3, 59, 36, 0) := ⟨m_36, rfl, hk_36, lw_gi 506 rfl rfl⟩
set_option maxRecDepth 100000 in
theorem lm_39 : okM (3, 62, 37, 0) := ⟨m_37, rfl, hk_37, lw_gi 510 rfl rfl⟩
set_option maxRecDepth 100000 in
theorem lm_40 : okM (3, 69, 20, 0) := ⟨m_20, rfl, hk_20, lw_gi 387 rfl rfl⟩
set_option maxRecDepth 100000 in
theorem lm_41 : okM (3, 78, 21, 0) := ⟨m_21, rfl, hk_21, lw_gi 392 rfl rfl⟩
set_option maxRecDepth 100000 in
theorem lm_42 : okM (3, 82, 22, 0) := ⟨m_22, rfl, hk_22, lw_gi 444 rfl rfl⟩
set_option maxRecDepth 100000 in
theorem lm_43 : okM (3, 87, 26, 0) := ⟨m_26, rfl, hk_26, lw_gi 461 rfl rfl⟩
set_option maxRecDepth 100000 in
theorem lm_44 : okM (3, 92, 31, 0) := ⟨m_31, rfl, hk_31, lw_gi 482 rfl rfl⟩
set_option maxRecDepth 100000 in
theorem lm_45 : okM (3, 100, 33, 0) := ⟨m_33, rfl, hk_33, lw_gi 492 rfl rfl⟩
set_option maxRecDepth 100000 in
theorem lm_46 : okM (3, 105, 34, 0) := ⟨m_34, rfl, hk_34, lw_gi 497 rfl rfl⟩
set_option maxRecDepth 100000 in
theorem lm_47 : okM (3, 110, 35, 0) := ⟨m_35, rfl, hk_35, lw_gi 502 rfl rfl⟩
set_option maxRecDepth 100000 in
theorem lm_48 : okM (3, 113, 25, 0) := ⟨m_25, rfl, hk_25, lw_gi 456 rfl rfl⟩
set_option maxRecDepth 100000 in
theorem lm_49 : okM (3, 120, 28, 0) := ⟨m_28, rfl, hk_28, lw_gi 469 rfl rfl⟩
set_option maxRecDepth 100000 in
theorem lm_50 : okM (3, 123, 23, 0) := ⟨m_23, rfl, hk_23, lw_gi 448 rfl rfl⟩
set_option maxRecDepth 100000 in
theorem lm_51 : okM (3, 127, 24, 0) := ⟨m_24, rfl, hk_24, lw_gi 452 rfl rfl⟩
set_option maxRecDepth 100000 in
theorem lm_52 : okM (3, 137, 27, 0) := ⟨m_27, rfl, hk_27, lw_gi 465 rfl rfl⟩
set_option maxRecDepth 100000 in
theorem lm_53 : okM (3, 146, 32, 0) := ⟨m_32, rfl, hk_32, lw_gi 486 rfl rfl⟩
set_option maxRecDepth 100000 in
theorem lm_54 : okM (3, 162, 38, 0) := ⟨m_38, rfl, hk_38, lw_gi 514 rfl rfl⟩
set_option maxRecDepth 100000 in
theorem lm_55 : okM (3, 165, 40, 0) := ⟨m_40, rfl, hk_40, lw_gi 522 rfl rfl⟩
set_option maxRecDepth 100000 in
theorem lm_56 : okM (3, 168, 39, 0) := ⟨m_39, rfl, hk_39, lw_gi 526 rfl rfl⟩
set_option maxRecDepth 100000 in
theorem lm_57 : okM (4, 33, 5, 0) := ⟨m_5, rfl, hk_5, lw_gi 126 rfl rfl⟩
set_option maxRecDepth 100000 in
theorem lm_58 : okM (4, 58, 6, 2) := ⟨m_6, rfl, hk_6, lw_gi 130 rfl rfl⟩
set_option maxRecDepth 100000 in
theorem lm_59 : okM (4, 64, 42, 0) := ⟨m_42, rfl, hk_42, lw_gi 531 rfl rfl⟩
set_option maxRecDepth 100000 in
theorem lm_60 : okM (4, 74, 39, 0) := ⟨m_39, rfl, hk_39, lw_gi 518 rfl rfl⟩
set_option maxRecDepth 100000 in
theorem lm_61 : okM (4, 78, 29, 0) := ⟨m_29, rfl, hk_29, lw_gi 473 rfl rfl⟩
set_option maxRecDepth 100000 in
theorem lm_62 : okM (4, 82, 30, 0) := ⟨m_30, rfl, hk_30, lw_gi 477 rfl rfl⟩
set_option maxRecDepth 100000 in
theorem lm_63 : okM (4, 86, 28, 0) := ⟨m_28, rfl, hk_28, lw_gi 572 rfl rfl⟩
set_option maxRecDepth 100000 in
theorem lm_64 : okM (4, 89, 59, 0) := ⟨m_59, rfl, hk_59, lw_gi 814 rfl rfl⟩
set_option maxRecDepth 100000 in
theorem lm_65 : okM (4, 92, 62, 2) := ⟨m_62, rfl, hk_62, lw_gi 815 rfl rfl⟩
set_option maxRecDepth 100000 in
theorem lm_66 : okM (4, 97, 60, 0) := ⟨m_60, rfl, hk_60, lw_gi 816 rfl rfl⟩
set_option maxRecDepth 100000 in
theorem lm_67 : okM (4, 100, 78, 0) := ⟨m_78, rfl, hk_78, lw_gi 768 rfl rfl⟩
set_option maxRecDepth 100000 in
theorem lm_68 : okM (4, 103, 100, 0) := ⟨m_100, rfl, hk_100, lw_gi 769 rfl rfl⟩
set_option maxRecDepth 100000 in
theorem lm_69 : okM (4, 110, 95, 0) := ⟨m_95, rfl, hk_95, lw_gi 748 rfl rfl⟩
set_option maxRecDepth 100000 in
theorem lm_70 : okM (5, 36, 59, 0) := ⟨m_59, rfl, hk_59, lw_gi 605 rfl rfl⟩
set_option maxRecDepth 100000 in
theorem lm_71 : okM (5, 40, 60, 0) := ⟨m_60, rfl, hk_60, lw_gi 609 rfl rfl⟩
set_option maxRecDepth 100000 in
theorem lm_72 : okM (5, 46, 61, 0) := ⟨m_61, rfl, hk_61, lw_gi 613 rfl rfl⟩
set_option maxRecDepth 100000 in
theorem lm_73 : okM (5, 53, 64, 2) := ⟨m_64, rfl, hk_64, lw_gi 623 rfl rfl⟩
set_option maxRecDepth 100000 in
theorem lm_74 : okM (5, 57, 62, 2) := ⟨m_62, rfl, hk_62, lw_gi 617 rfl rfl⟩
set_option maxRecDepth 100000 in
theorem lm_75 : okM (5, 65, 63, 2) := ⟨m_63, rfl, hk_63, lw_gi 620 rfl rfl⟩
set_option maxRecDepth 100000 in
theorem lm_76 : okM (5, 70, 58, 0) := ⟨m_58, rfl, hk_58, lw_gi 643 rfl rfl⟩
set_option maxRecDepth 100000 in
theorem lm_77 : okM (5, 74, 69, 0) := ⟨m_69, rfl, hk_69, lw_gi 644 rfl rfl⟩
set_option maxRecDepth 100000 in
theorem lm_78 : okM (5, 77, 70, 0) := ⟨m_70, rfl, hk_70, lw_gi 648 rfl rfl⟩
set_option maxRecDepth 100000 in
theorem lm_79 : okM (5, 83, 68, 0) := ⟨m_68, rfl, hk_68, lw_gi 676 rfl rfl⟩
set_option maxRecDepth 100000 in
theorem lm_80 : okM (5, 86, 77, 0) := ⟨m_77, rfl, hk_77, lw_gi 677 rfl rfl⟩
set_option maxRecDepth 100000 in
theorem lm_81 : okM (5, 108, 71, 0) := ⟨m_71, rfl, hk_71, lw_gi 652 rfl rfl⟩
set_option maxRecDepth 100000 in
theorem lm_82 : okM (5, 114, 73, 0) := ⟨m_73, rfl, hk_73, lw_gi 879 rfl rfl⟩
set_option maxRecDepth 100000 in
theorem lm_83 : okM (6, 11, 2, 1) := ⟨m_2, rfl, hk_2, lw_gi 85 rfl rfl⟩
set_option maxRecDepth 100000 in
theorem lm_84 : okM (6, 18, 3, 1) := ⟨m_3, rfl, hk_3, lw_gi 116 rfl rfl⟩
set_option maxRecDepth 100000 in
theorem lm_85 : okM (6, 27, 4, 1) := ⟨m_4, rfl, hk_4, lw_gi 246 rfl rfl⟩
set_option maxRecDepth 100000 in
theorem lm_86 : okM (6, 34, 7, 1) := ⟨m_7, rfl, hk_7, lw_gi 249 rfl rfl⟩
set_option maxRecDepth 100000 in
theorem lm_87 : okM (6, 41, 8, 1) := ⟨m_8, rfl, hk_8, lw_gi 282 rfl rfl⟩
set_option maxRecDepth 100000 in
theorem lm_88 : okM (6, 58, 9, 1) := ⟨m_9, rfl, hk_9, lw_gi 303 rfl rfl⟩
set_option maxRecDepth 100000 in
theorem lm_89 : okM (6, 59, 11, 0) := ⟨m_11, rfl, hk_11, lw_gi 351 rfl rfl⟩
set_option maxRecDepth 100000 in
theorem lm_90 : okM (6, 67, 14, 0) := ⟨m_14, rfl, hk_14, lw_gi 363 rfl rfl⟩
set_option maxRecDepth 100000 in
theorem lm_91 : okM (6, 79, 41, 0) := ⟨m_41, rfl, hk_41, lw_gi 527 rfl rfl⟩
set_option maxRecDepth 100000 in
theorem lm_92 : okM (6, 111, 40, 0) := ⟨m_40, rfl, hk_40, lw_gi 550 rfl rfl⟩
set_option maxRecDepth 100000 in
theorem lm_93 : okM (6, 126, 38, 0) := ⟨m_38, rfl, hk_38, lw_gi 555 rfl rfl⟩
set_option maxRecDepth 100000 in
theorem lm_94 : okM (6, 129, 30, 0) := ⟨m_30, rfl, hk_30, lw_gi 556 rfl rfl⟩
set_option maxRecDepth 100000 in
theorem lm_95 : okM (6, 133, 48, 2) := ⟨m_48, rfl, hk_48, lw_gi 561 rfl rfl⟩
set_option maxRecDepth 100000 in
theorem lm_96 : okM (6, 136, 50, 0) := ⟨m_50, rfl, hk_50, lw_gi 568 rfl rfl⟩
set_option maxRecDepth 100000 in
theorem lm_97 : okM (6, 140, 29, 0) := ⟨m_29, rfl, hk_29, lw_gi 585 rfl rfl⟩
set_option maxRecDepth 100000 in
theorem lm_98 : okM (6, 143, 57, 2) := ⟨m_57, rfl, hk_57, lw_gi 598 rfl rfl⟩
set_option maxRecDepth 100000 in
theorem lm_99 : okM (6, 146, 58, 0) := ⟨m_58, rfl, hk_58, lw_gi 601 rfl rfl⟩
set_option maxRecDepth 100000 in
theorem lm_100 : okM (6, 158, 67, 0) := ⟨m_67, rfl, hk_67, lw_gi 634 rfl rfl⟩
set_option maxRecDepth 100000 in
theorem lm_101 : okM (6, 162, 62, 2) := ⟨m_62, rfl, hk_62, lw_gi 667 rfl rfl⟩
set_option maxRecDepth 100000 in
theorem lm_102 : okM (6, 167, 76, 0) := ⟨m_76, rfl, hk_76, lw_gi 672 rfl rfl⟩
set_option maxRecDepth 100000 in
theorem lm_103 : okM (6, 171, 78, 0) := ⟨m_78, rfl, hk_78, lw_gi 681 rfl rfl⟩
set_option maxRecDepth 100000 in
theorem lm_104 : okM (6, 175, 80, 0) := ⟨m_80, rfl, hk_80, lw_gi 689 rfl rfl⟩
set_option maxRecDepth 100000 in
theorem lm_105 : okM (6, 179, 82, 0) := ⟨m_82, rfl, hk_82, lw_gi 698 rfl rfl⟩
set_option maxRecDepth 100000 in
theorem lm_106 : okM (6, 182, 85, 0) := ⟨m_85, rfl, hk_85, lw_gi 711 rfl rfl⟩
set_option maxRecDepth 100000 in
theorem lm_107 : okM (6, 185, 87, 2) := ⟨m_87, rfl, hk_87, lw_gi 720 rfl rfl⟩
set_option maxRecDepth 100000 in
theorem lm_108 : okM (6, 188, 88, 2) := ⟨m_88, rfl, hk_88, lw_gi 723 rfl rfl⟩
set_option maxRecDepth 100000 in
theorem lm_109 : okM (6, 191, 90, 2) := ⟨m_90, rfl, hk_90, lw_gi 730 rfl rfl⟩
set_option maxRecDepth 100000 in
theorem lm_110 : okM (6, 194, 91, 0) := ⟨m_91, rfl, hk_91, lw_gi 733 rfl rfl⟩
set_option maxRecDepth 100000 in
theorem lm_111 : okM (6, 197, 92, 0) := ⟨m_92, rfl, hk_92, lw_gi 737 rfl rfl⟩
set_option maxRecDepth 100000 in
theorem lm_112 : okM (6, 201, 94, 0) := ⟨m_94, rfl, hk_94, lw_gi 773 rfl rfl⟩
set_option maxRecDepth 100000 in
theorem lm_113 : okM (6, 204, 95, 0) := ⟨m_95, rfl, hk_95, lw_gi 774 rfl rfl⟩
set_option maxRecDepth 100000 in
theorem lm_114 : okM (6, 208, 102, 0) := ⟨m_102, rfl, hk_102, lw_gi 779 rfl rfl⟩
set_option maxRecDepth 100000 in
theorem lm_115 : okM (6, 211, 105, 0) := ⟨m_105, rfl, hk_105, lw_gi 791 rfl rfl⟩
set_option maxRecDepth 100000 in
theorem lm_116 : okM (6, 214, 107, 0) := ⟨m_107, rfl, hk_107, lw_gi 801 rfl rfl⟩
set_option maxRecDepth 100000 in
theorem lm_117 : okM (6, 218, 96, 2) := ⟨m_96, rfl, hk_96, lw_gi 817 rfl rfl⟩
set_option maxRecDepth 100000 in
theorem lm_118 : okM (6, 222, 111, 0) := ⟨m_111, rfl, hk_111, lw_gi 822 rfl rfl⟩
set_option maxRecDepth 100000 in
theorem lm_119 : okM (6, 228, 113, 0) := ⟨m_113, rfl, hk_113, lw_gi 835 rfl rfl⟩
set_option maxRecDepth 100000 in
theorem lm_120 : okM (6, 232, 116, 0) := ⟨m_116, rfl, hk_116, lw_gi 847 rfl rfl⟩
set_option maxRecDepth 100000 in
theorem lm_121 : okM (6, 236, 117, 2) := ⟨m_117, rfl, hk_117, lw_gi 852 rfl rfl⟩
set_option maxRecDepth 100000 in
theorem lm_122 : okM (6, 249, 121, 0) := ⟨m_121, rfl, hk_121, lw_gi 867 rfl rfl⟩
set_option maxRecDepth 100000 in
theorem lm_123 : okM (6, 252, 124, 0) := ⟨m_124, rfl, hk_124, lw_gi 880 rfl rfl⟩
set_option maxRecDepth 100000 in
theorem lm_124 : okM (6, 255, 126, 0) := ⟨m_126, rfl, hk_126, lw_gi 889 rfl rfl⟩
set_option maxRecDepth 100000 in
theorem lm_125 : okM (6, 258, 131, 2) := ⟨m_131, rfl, hk_131, lw_gi 912 rfl rfl⟩
set_option maxRecDepth 100000 in
theorem lm_126 : okM (6, 261, 132, 2) := ⟨m_132, rfl, hk_132, lw_gi 915 rfl rfl⟩
set_option maxRecDepth 100000 in
theorem lm_127 : okM (6, 264, 133, 0) := ⟨m_133, rfl, hk_133, lw_gi 918 rfl rfl⟩
set_option maxRecDepth 100000 in
theorem lm_128 : okM (6, 268, 135, 0) := ⟨m_135, rfl, hk_135, lw_gi 927 rfl rfl⟩
set_option maxRecDepth 100000 in
theorem lm_129 : okM (6, 271, 137, 0) := ⟨m_137, rfl, hk_137, lw_gi 935 rfl rfl⟩
set_option maxRecDepth 100000 in
theorem lm_130 : okM (6, 274, 139, 0) := ⟨m_139, rfl, hk_139, lw_gi 943 rfl rfl⟩
set_option maxRecDepth 100000 in
theorem lm_131 : okM (6, 277, 140, 0) := ⟨m_140, rfl, hk_140, lw_gi 947 rfl rfl⟩
set_option maxRecDepth 100000 in
theorem lm_132 : okM (6, 280, 141, 0) := ⟨m_141, rfl, hk_141, lw_gi 952 rfl rfl⟩
set_option maxRecDepth 100000 in
theorem lm_133 : okM (6, 290, 100, 0) := ⟨m_100, rfl, hk_100, lw_gi 964 rfl rfl⟩
set_option maxRecDepth 100000 in
theorem lm_134 : okM (6, 293, 127, 2) := ⟨m_127, rfl, hk_127, lw_gi 965 rfl rfl⟩
set_option maxRecDepth 100000 in
theorem lm_135 : okM (6, 298, 136, 0) := ⟨m_136, rfl, hk_136, lw_gi 966 rfl rfl⟩
set_option maxRecDepth 100000 in
theorem lm_136 : okM (6, 305, 144, 0) := ⟨m_144, rfl, hk_144, lw_gi 967 rfl rfl⟩
set_option maxRecDepth 100000 in
theorem lm_137 : okM (7, 62, 146, 0) := ⟨m_146, rfl, hk_146, lw_gi 977 rfl rfl⟩
set_option maxRecDepth 100000 in
theorem lm_138 : okM (7, 65, 147, 0) := ⟨m_147, rfl, hk_147, lw_gi 981 rfl rfl⟩
set_option maxRecDepth 100000 in
theorem lm_139 : okM (7, 98, 149, 2) := ⟨m_149, rfl, hk_149, lw_gi 1097 rfl rfl⟩
set_option maxRecDepth 100000 in
theorem lm_140 : okM (7, 117, 153, 0) := ⟨m_153, rfl, hk_153, lw_gi 1112 rfl rfl⟩
set_option maxRecDepth 100000 in
theorem lm_141 : okM (7, 121, 157, 0) := ⟨m_157, rfl, hk_157, lw_gi 1132 rfl rfl⟩
set_option maxRecDepth 100000 in
theorem lm_142 : okM (7, 125, 158, 0) := ⟨m_158, rfl, hk_158, lw_gi 1136 rfl rfl⟩
set_option maxRecDepth 100000 in
theorem lm_143 : okM (7, 142, 154, 0) := ⟨m_154, rfl, hk_154, lw_gi 1120 rfl rfl⟩
set_option maxRecDepth 100000 in
theorem lm_144 : okM (7, 146, 161, 0) := ⟨m_161, rfl, hk_161, lw_gi 1148 rfl rfl⟩
set_option maxRecDepth 100000 in
theorem lm_145 : okM (7, 150, 152, 0) := ⟨m_152, rfl, hk_152, lw_gi 1108 rfl rfl⟩
set_option maxRecDepth 100000 in
theorem lm_146 : okM (7, 153, 162, 0) := ⟨m_162, rfl, hk_162, lw_gi 1152 rfl rfl⟩
set_option maxRecDepth 100000 in
theorem lm_147 : okM (7, 157, 160, 0) := ⟨m_160, rfl, hk_160, lw_gi 1144 rfl rfl⟩
set_option maxRecDepth 100000 in
theorem lm_148 : okM (7, 160, 163, 0) := ⟨m_163, rfl, hk_163, lw_gi 1156 rfl rfl⟩
set_option maxRecDepth 100000 in
theorem lm_149 : okM (7, 163, 164, 2) := ⟨m_164, rfl, hk_164, lw_gi 1160 rfl rfl⟩
set_option maxRecDepth 100000 in
theorem lm_150 : okM (7, 167, 165, 0) := ⟨m_165, rfl, hk_165, lw_gi 1163 rfl rfl⟩
set_option maxRecDepth 100000 in
theorem lm_151 : okM (7, 171, 156, 0) := ⟨m_156, rfl, hk_156, lw_gi 1128 rfl rfl⟩
set_option maxRecDepth 100000 in
theorem lm_152 : okM (7, 174, 159, 0) := ⟨m_159, rfl, hk_159, lw_gi 1140 rfl rfl⟩
set_option maxRecDepth 100000 in
theorem lm_153 : okM (7, 177, 155, 0) := ⟨m_155, rfl, hk_155, lw_gi 1124 rfl rfl⟩
set_option maxRecDepth 100000 in
theorem lm_154 : okM (7, 183, 186, 2) := ⟨m_186, rfl, hk_186, lw_gi 1250 rfl rfl⟩
set_option maxRecDepth 100000 in
theorem lm_155 : okM (7, 186, 185, 0) := ⟨m_185, rfl, hk_185, lw_gi 1246 rfl rfl⟩
set_option maxRecDepth 100000 in
theorem lm_156 : okM (7, 191, 187, 2) := ⟨m_187, rfl, hk_187, lw_gi 1253 rfl rfl⟩
set_option maxRecDepth 100000 in
theorem lm_157 : okM (7, 194, 184, 0) := ⟨m_184, rfl, hk_184, lw_gi 1242 rfl rfl⟩
set_option maxRecDepth 100000 in
theorem lm_158 : okM (7, 198, 192, 0) := ⟨m_192, rfl, hk_192, lw_gi 1272 rfl rfl⟩
set_option maxRecDepth 100000 in
theorem lm_159 : okM (7, 201, 173, 0) := ⟨m_173, rfl, hk_173, lw_gi 1197 rfl rfl⟩
set_option maxRecDepth 100000 in
theorem lm_160 : okM (7, 204, 189, 0) := ⟨m_189, rfl, hk_189, lw_gi 1260 rfl rfl⟩
set_option maxRecDepth 100000 in
theorem lm_161 : okM (7, 207, 177, 0) := ⟨m_177, rfl, hk_177, lw_gi 1213 rfl rfl⟩
set_option maxRecDepth 100000 in
theorem lm_162 : okM (7, 211, 193, 0) := ⟨m_193, rfl, hk_193, lw_gi 1276 rfl rfl⟩
set_option maxRecDepth 100000 in
theorem lm_163 : okM (7, 214, 194, 2) := ⟨m_194, rfl, hk_194, lw_gi 1280 rfl rfl⟩
set_option maxRecDepth 100000 in
theorem lm_164 : okM (7, 217, 191, 0) := ⟨m_191, rfl, hk_191, lw_gi 1268 rfl rfl⟩
set_option maxRecDepth 100000 in
theorem lm_165 : okM (7, 221, 197, 0) := ⟨m_197, rfl, hk_197, lw_gi 1292 rfl rfl⟩
set_option maxRecDepth 100000 in
theorem lm_166 : okM (7, 224, 205, 0) := ⟨m_205, rfl, hk_205, lw_gi 1325 rfl rfl⟩
set_option maxRecDepth 100000 in
theorem lm_167 : okM (7, 227, 169, 0) := ⟨m_169, rfl, hk_169, lw_gi 1180 rfl rfl⟩
set_option maxRecDepth 100000 in
theorem lm_168 : okM (7, 232, 171, 0) := ⟨m_171, rfl, hk_171, lw_gi 1189 rfl rfl⟩
set_option maxRecDepth 100000 in
theorem lm_169 : okM (7, 235, 172, 0) := ⟨m_172, rfl, hk_172, lw_gi 1193 rfl rfl⟩
set_option maxRecDepth 100000 in
theorem lm_170 : okM (7, 238, 175, 0) := ⟨m_175, rfl, hk_175, lw_gi 1205 rfl rfl⟩
set_option maxRecDepth 100000 in
theorem lm_171 : okM (7, 248, 202, 2) := ⟨m_202, rfl, hk_202, lw_gi 1314 rfl rfl⟩
set_option maxRecDepth 100000 in
theorem lm_172 : okM (7, 251, 203, 0) := ⟨m_203, rfl, hk_203, lw_gi 1317 rfl rfl⟩
set_option maxRecDepth 100000 in
theorem lm_173 : okM (7, 254, 204, 0) := ⟨m_204, rfl, hk_204, lw_gi 1321 rfl rfl⟩
set_option maxRecDepth 100000 in
theorem lm_174 : okM (7, 263, 211, 2) := ⟨m_211, rfl, hk_211, lw_gi 1352 rfl rfl⟩
set_option maxRecDepth 100000 in
theorem lm_175 : okM (7, 268, 217, 0) := ⟨m_217, rfl, hk_217, lw_gi 1376 rfl rfl⟩
set_option maxRecDepth 100000 in
theorem lm_176 : okM (7, 274, 220, 2) := ⟨m_220, rfl, hk_220, lw_gi 1388 rfl rfl⟩
set_option maxRecDepth 100000 in
theorem lm_177 : okM (7, 280, 174, 0) := ⟨m_174, rfl, hk_174, lw_gi 1401 rfl rfl⟩
set_option maxRecDepth 100000 in
theorem lm_178 : okM (8, 9, 1, 1) := ⟨m_1, rfl, hk_1, lw_gi 77 rfl rfl⟩
set_option maxRecDepth 100000 in
theorem lm_179 : okM (8, 12, 145, 1) := ⟨m_145, rfl, hk_145, lw_gi 973 rfl rfl⟩
set_option maxRecDepth 100000 in
theorem lm_180 : okM (8, 13, 10, 0) := ⟨m_10, rfl, hk_10, lw_gi 347 rfl rfl⟩
set_option maxRecDepth 100000 in
theorem lm_181 : okM (8, 17, 148, 0) := ⟨m_148, rfl, hk_148, lw_gi 1092 rfl rfl⟩
set_option maxRecDepth 100000 in
theorem lm_182 : okM (8, 18, 12, 0) := ⟨m_12, rfl, hk_12, lw_gi 355 rfl rfl⟩
set_option maxRecDepth 100000 in
theorem lm_183 : okM (8, 21, 150, 0) := ⟨m_150, rfl, hk_150, lw_gi 1100 rfl rfl⟩
set_option maxRecDepth 100000 in
theorem lm_184 : okM (8, 22, 13, 0) := ⟨m_13, rfl, hk_13, lw_gi 359 rfl rfl⟩
set_option maxRecDepth 100000 in
theorem lm_185 : okM (8, 26, 151, 0) := ⟨m_151, rfl, hk_151, lw_gi 1104 rfl rfl⟩
set_option maxRecDepth 100000 in
theorem lm_186 : okM (8, 27, 43, 0) := ⟨m_43, rfl, hk_43, lw_gi 538 rfl rfl⟩
set_option maxRecDepth 100000 in
theorem lm_187 : okM (8, 30, 166, 0) := ⟨m_166, rfl, hk_166, lw_gi 1167 rfl rfl⟩
set_option maxRecDepth 100000 in
theorem lm_188 : okM (8, 31, 44, 0) := ⟨m_44, rfl, hk_44, lw_gi 542 rfl rfl⟩
set_option maxRecDepth 100000 in
theorem lm_189 : okM (8, 34, 167, 0) := ⟨m_167, rfl, hk_167, lw_gi 1171 rfl rfl⟩
set_option maxRecDepth 100000 in
theorem lm_190 : okM (8, 35, 45, 0) := ⟨m_45, rfl, hk_45, lw_gi 546 rfl rfl⟩
set_option maxRecDepth 100000 in
theorem lm_191 : okM (8, 39, 168, 0) := ⟨m_168, rfl, hk_168, lw_gi 1176 rfl rfl⟩
set_option maxRecDepth 100000 in
theorem lm_192 : okM (8, 40, 46, 0) := ⟨m_46, rfl, hk_46, lw_gi 551 rfl rfl⟩
set_option maxRecDepth 100000 in
theorem lm_193 : okM (8, 43, 170, 0) := ⟨m_170, rfl, hk_170, lw_gi 1185 rfl rfl⟩
set_option maxRecDepth 100000 in
theorem lm_194 : okM (8, 44, 47, 0) := ⟨m_47, rfl, hk_47, lw_gi 557 rfl rfl⟩
set_option maxRecDepth 100000 in
theorem lm_195 : okM (8, 47, 174, 0) := ⟨m_174, rfl, hk_174, lw_gi 1201 rfl rfl⟩
set_option maxRecDepth 100000 in
theorem lm_196 : okM (8, 48, 49, 0) := ⟨m_49, rfl, hk_49, lw_gi 564 rfl rfl⟩
set_option maxRecDepth 100000 in
theorem lm_197 : okM (8, 51, 176, 0) := ⟨m_176, rfl, hk_176, lw_gi 1209 rfl rfl⟩
set_option maxRecDepth 100000 in
theorem lm_198 : okM (8, 52, 51, 0) := ⟨m_51, rfl, hk_51, lw_gi 573 rfl rfl⟩
set_option maxRecDepth 100000 in
theorem lm_199 : okM (8, 56, 178, 0) := ⟨m_178, rfl, hk_178, lw_gi 1217 rfl rfl⟩
set_option maxRecDepth 100000 in
theorem lm_200 : okM (8, 57, 52, 0) := ⟨m_52, rfl, hk_52, lw_gi 577 rfl rfl⟩
set_option maxRecDepth 100000 in
theorem lm_201 : okM (8, 60, 179, 0) := ⟨m_179, rfl, hk_179, lw_gi 1221 rfl rfl⟩
set_option maxRecDepth 100000 in
theorem lm_202 : okM (8, 61, 53, 0) := ⟨m_53, rfl, hk_53, lw_gi 581 rfl rfl⟩
set_option maxRecDepth 100000 in
theorem lm_203 : okM (8, 64, 180, 0) := ⟨m_180, rfl, hk_180, lw_gi 1225 rfl rfl⟩
set_option maxRecDepth 100000 in
theorem lm_204 : okM (8, 65, 54, 0) := ⟨m_54, rfl, hk_54, lw_gi 586 rfl rfl⟩
set_option maxRecDepth 100000 in
theorem lm_205 : okM (8, 68, 181, 0) := ⟨m_181, rfl, hk_181, lw_gi 1229 rfl rfl⟩
set_option maxRecDepth 100000 in
theorem lm_206 : okM (8, 69, 55, 0) := ⟨m_55, rfl, hk_55, lw_gi 590 rfl rfl⟩
set_option maxRecDepth 100000 in
theorem lm_207 : okM (8, 72, 182, 0) := ⟨m_182, rfl, hk_182, lw_gi 1234 rfl rfl⟩
set_option maxRecDepth 100000 in
theorem lm_208 : okM (8, 73, 56, 0) := ⟨m_56, rfl, hk_56, lw_gi 594 rfl rfl⟩
set_option maxRecDepth 100000 in
theorem lm_209 : okM (8, 76, 183, 0) := ⟨m_183, rfl, hk_183, lw_gi 1238 rfl rfl⟩
set_option maxRecDepth 100000 in
theorem lm_210 : okM (8, 77, 65, 0) := ⟨m_65, rfl, hk_65, lw_gi 626 rfl rfl⟩
set_option maxRecDepth 100000 in
theorem lm_211 : okM (8, 80, 188, 0) := ⟨m_188, rfl, hk_188, lw_gi 1256 rfl rfl⟩
set_option maxRecDepth 100000 in
theorem lm_212 : okM (8, 81, 66, 0) := ⟨m_66, rfl, hk_66, lw_gi 630 rfl rfl⟩
set_option maxRecDepth 100000 in
theorem lm_213 : okM (8, 84, 190, 0) := ⟨m_190, rfl, hk_190, lw_gi 1264 rfl rfl⟩
set_option maxRecDepth 100000 in
theorem lm_214 : okM (8, 85, 74, 0) := ⟨m_74, rfl, hk_74, lw_gi 663 rfl rfl⟩
set_option maxRecDepth 100000 in
theorem lm_215 : okM (8, 88, 195, 0) := ⟨m_195, rfl, hk_195, lw_gi 1283 rfl rfl⟩
set_option maxRecDepth 100000 in
theorem lm_216 : okM (8, 89, 75, 0) := ⟨m_75, rfl, hk_75, lw_gi 668 rfl rfl⟩
set_option maxRecDepth 100000 in
theorem lm_217 : okM (8, 92, 196, 0) := ⟨m_196, rfl, hk_196, lw_gi 1287 rfl rfl⟩
set_option maxRecDepth 100000 in
theorem lm_218 : okM (8, 93, 79, 0) := ⟨m_79, rfl, hk_79, lw_gi 685 rfl rfl⟩
set_option maxRecDepth 100000 in
theorem lm_219 : okM (8, 97, 198, 0) := ⟨m_198, rfl, hk_198, lw_gi 1296 rfl rfl⟩
set_option maxRecDepth 100000 in
theorem lm_220 : okM (8, 98, 81, 0) := ⟨m_81, rfl, hk_81, lw_gi 694 rfl rfl⟩
set_option maxRecDepth 100000 in
theorem lm_221 : okM (8, 101, 199, 0) := ⟨m_199, rfl, hk_199, lw_gi 1300 rfl rfl⟩
set_option maxRecDepth 100000 in
theorem lm_222 : okM (8, 102, 84, 0) := ⟨m_84, rfl, hk_84, lw_gi 707 rfl rfl⟩
set_option maxRecDepth 100000 in
theorem lm_223 : okM (8, 105, 200, 0) := ⟨m_200, rfl, hk_200, lw_gi 1304 rfl rfl⟩
set_option maxRecDepth 100000 in
theorem lm_224 : okM (8, 106, 89, 0) := ⟨m_89, rfl, hk_89, lw_gi 726 rfl rfl⟩
set_option maxRecDepth 100000 in
theorem lm_225 : okM (8, 109, 201, 0) := ⟨m_201, rfl, hk_201, lw_gi 1308 rfl rfl⟩
set_option maxRecDepth 100000 in
theorem lm_226 : okM (8, 110, 101, 0) := ⟨m_101, rfl, hk_101, lw_gi 775 rfl rfl⟩
set_option maxRecDepth 100000 in
theorem lm_227 : okM (8, 113, 206, 0) := ⟨m_206, rfl, hk_206, lw_gi 1329 rfl rfl⟩
set_option maxRecDepth 100000 in
theorem lm_228 : okM (8, 114, 104, 0) := ⟨m_104, rfl, hk_104, lw_gi 787 rfl rfl⟩
set_option maxRecDepth 100000 in
theorem lm_229 : okM (8, 117, 207, 0) := ⟨m_207, rfl, hk_207, lw_gi 1333 rfl rfl⟩
set_option maxRecDepth 100000 in
theorem lm_230 : okM (8, 118, 106, 0) := ⟨m_106, rfl, hk_106, lw_gi 797 rfl rfl⟩
set_option maxRecDepth 100000 in
theorem lm_231 : okM (8, 122, 208, 0) := ⟨m_208, rfl, hk_208, lw_gi 1337 rfl rfl⟩
set_option maxRecDepth 100000 in
theorem lm_232 : okM (8, 123, 110, 0) := ⟨m_110, rfl, hk_110, lw_gi 818 rfl rfl⟩
set_option maxRecDepth 100000 in
theorem lm_233 : okM (8, 126, 209, 0) := ⟨m_209, rfl, hk_209, lw_gi 1343 rfl rfl⟩
set_option maxRecDepth 100000 in
theorem lm_234 : okM (8, 127, 112, 0) := ⟨m_112, rfl, hk_112, lw_gi 830 rfl rfl⟩
set_option maxRecDepth 100000 in
theorem lm_235 : okM (8, 131, 210, 0) := ⟨m_210, rfl, hk_210, lw_gi 1347 rfl rfl⟩
set_option maxRecDepth 100000 in
theorem lm_236 : okM (8, 132, 118, 0) := ⟨m_118, rfl, hk_118, lw_gi 855 rfl rfl⟩
set_option maxRecDepth 100000 in
theorem lm_237 : okM (8, 135, 212, 0) := ⟨m_212, rfl, hk_212, lw_gi 1355 rfl rfl⟩
set_option maxRecDepth 100000 in
theorem lm_238 : okM (8, 136, 119, 0) := ⟨m_119, rfl, hk_119, lw_gi 859 rfl rfl⟩
set_option maxRecDepth 100000 in
theorem lm_239 : okM (8, 139, 213, 0) := ⟨m_213, rfl, hk_213, lw_gi 1359 rfl rfl⟩
set_option maxRecDepth 100000 in
theorem lm_240 : okM (8, 140, 120, 0) := ⟨m_120, rfl, hk_120, lw_gi 863 rfl rfl⟩
set_option maxRecDepth 100000 in
theorem lm_241 : okM (8, 143, 214, 0) := ⟨m_214, rfl, hk_214, lw_gi 1363 rfl rfl⟩
set_option maxRecDepth 100000 in
theorem lm_242 : okM (8, 144, 125, 0) := ⟨m_125, rfl, hk_125, lw_gi 885 rfl rfl⟩
set_option maxRecDepth 100000 in
theorem lm_243 : okM (8, 147, 215, 0) := ⟨m_215, rfl, hk_215, lw_gi 1367 rfl rfl⟩
set_option maxRecDepth 100000 in
theorem lm_244 : okM (8, 148, 128, 0) := ⟨m_128, rfl, hk_128, lw_gi 900 rfl rfl⟩
set_option maxRecDepth 100000 in
theorem lm_245 : okM (8, 151, 216, 0) := ⟨m_216, rfl, hk_216, lw_gi 1372 rfl rfl⟩
set_option maxRecDepth 100000 in
theorem lm_246 : okM (8, 152, 129, 0) := ⟨m_129, rfl, hk_129, lw_gi 904 rfl rfl⟩
set_option maxRecDepth 100000 in
theorem lm_247 : okM (8, 155, 218, 0) := ⟨m_218, rfl, hk_218, lw_gi 1380 rfl rfl⟩
set_option maxRecDepth 100000 in
theorem lm_248 : okM (8, 156, 130, 0) := ⟨m_130, rfl, hk_130, lw_gi 908 rfl rfl⟩
set_option maxRecDepth 100000 in
theorem lm_249 : okM (8, 159, 219, 0) := ⟨m_219, rfl, hk_219, lw_gi 1384 rfl rfl⟩
set_option maxRecDepth 100000 in
theorem lm_250 : okM (8, 160, 134, 0) := ⟨m_134, rfl, hk_134, lw_gi 923 rfl rfl⟩
set_option maxRecDepth 100000 in
theorem lm_251 : okM (8, 163, 221, 0) := ⟨m_221, rfl, hk_221, lw_gi 1392 rfl rfl⟩
set_option maxRecDepth 100000 in
theorem lm_252 : okM (8, 164, 138, 0) := ⟨m_138, rfl, hk_138, lw_gi 939 rfl rfl⟩
set_option maxRecDepth 100000 in
theorem lm_253 : okM (8, 167, 222, 0) := ⟨m_222, rfl, hk_222, lw_gi 1396 rfl rfl⟩
set_option maxRecDepth 100000 in
theorem lm_254 : okM (8, 168, 142, 0) := ⟨m_142, rfl, hk_142, lw_gi 956 rfl rfl⟩
set_option maxRecDepth 100000 in
theorem lm_255 : okM (8, 171, 223, 0) := ⟨m_223, rfl, hk_223, lw_gi 1402 rfl rfl⟩
set_option maxRecDepth 100000 in
theorem lm_256 : okM (8, 172, 143, 0) := ⟨m_143, rfl, hk_143, lw_gi 960 rfl rfl⟩
set_option maxRecDepth 100000 in
theorem lm_257 : okM (8, 175, 224, 0) := ⟨m_224, rfl, hk_224, lw_gi 1406 rfl rfl⟩
def lkM_0 : List (Nat × Nat × Nat × Nat) := [(0, 17, 4, 1), (0, 26, 41, 0), (0, 30, 76, 0), (0, 36, 68, 0), (0, 47, 73, 0), (0, 51, 83, 0), (0, 55, 77, 0), (0, 58, 86, 0), (0, 66, 94, 0), (0, 69, 97, 0), (0, 73, 42, 0), (0, 76, 98, 0), (0, 80, 99, 0), (0, 83, 103, 0), (0, 86, 39, 0), (0, 90, 50, 0)]
theorem lkM_o0 : ∀ q ∈ lkM_0, okM q := List.forall_mem_cons.mpr ⟨lm_0, List.forall_mem_cons.mpr ⟨lm_1, List.forall_mem_cons.mpr ⟨lm_2, List.forall_mem_cons.mpr ⟨lm_3, List.forall_mem_cons.mpr ⟨lm_4, List.forall_mem_cons.mpr ⟨lm_5, List.forall_mem_cons.mpr ⟨lm_6, List.forall_mem_cons.mpr ⟨lm_7, List.forall_mem_cons.mpr ⟨lm_8, List.forall_mem_cons.mpr ⟨lm_9, List.forall_mem_cons.mpr ⟨lm_10, List.forall_mem_cons.mpr ⟨lm_11, List.forall_mem_cons.mpr ⟨lm_12, List.forall_mem_cons.mpr ⟨lm_13, List.forall_mem_cons.mpr ⟨lm_14, List.forall_mem_cons.mpr ⟨lm_15, fun _ h => absurd h List.not_mem_nil⟩⟩⟩⟩⟩⟩⟩⟩⟩⟩⟩⟩⟩⟩⟩⟩
def lkM_1 : List (Nat × Nat × Nat × Nat) := [(0, 97, 108, 0), (0, 101, 109, 0), (0, 112, 28, 0), (0, 118, 32, 0), (0, 122, 78, 0), (0, 125, 88, 2), (0, 128, 114, 2), (0, 132, 115, 0), (0, 138, 122, 0), (0, 142, 95, 0), (0, 151, 123, 0), (0, 161, 127, 2), (1, 22, 6, 2), (1, 28, 136, 0), (1, 32, 135, 0), (2, 28, 17, 2)]
theorem lkM_o1 : ∀ q ∈ lkM_1, okM q := List.forall_mem_cons.mpr ⟨lm_16, List.forall_mem_cons.mpr ⟨lm_17, List.forall_mem_cons.mpr ⟨lm_18, List.forall_mem_cons.mpr ⟨lm_19, List.forall_mem_cons.mpr ⟨lm_20, List.forall_mem_cons.mpr ⟨lm_21, List.forall_mem_cons.mpr ⟨lm_22, List.forall_mem_cons.mpr ⟨lm_23, List.forall_mem_cons.mpr ⟨lm_24, List.forall_mem_cons.mpr ⟨lm_25, List.forall_mem_cons.mpr ⟨lm_26, List.forall_mem_cons.mpr ⟨lm_27, List.forall_mem_cons.mpr ⟨lm_28, List.forall_mem_cons.mpr ⟨lm_29, List.forall_mem_cons.mpr ⟨lm_30, List.forall_mem_cons.mpr ⟨lm_31, fun _ h => absurd h List.not_mem_nil⟩⟩⟩⟩⟩⟩⟩⟩⟩⟩⟩⟩⟩⟩⟩⟩
def lkM_2 : List (Nat × Nat × Nat × Nat) := [(2, 32, 18, 0), (3, 17, 4, 1), (3, 22, 5, 0), (3, 45, 15, 0), (3, 50, 16, 0), (3, 56, 19, 0), (3, 59, 36, 0), (3, 62, 37, 0), (3, 69, 20, 0), (3, 78, 21, 0), (3, 82, 22, 0), (3, 87, 26, 0), (3, 92, 31, 0), (3, 100, 33, 0), (3, 105, 34, 0), (3, 110, 35, 0)]
theorem lkM_o2 : ∀ q ∈ lkM_2, okM q := List.forall_mem_cons.mpr ⟨lm_32, List.forall_mem_cons.mpr ⟨lm_33, List.forall_mem_cons.mpr ⟨lm_34, List.forall_mem_cons.mpr ⟨lm_35, List.forall_mem_cons.mpr ⟨lm_36, List.forall_mem_cons.mpr ⟨lm_37, List.forall_mem_cons.mpr ⟨lm_38, List.forall_mem_cons.mpr ⟨lm_39, List.forall_mem_cons.mpr ⟨lm_40, List.forall_mem_cons.mpr ⟨lm_41, List.forall_mem_cons.mpr ⟨lm_42, List.forall_mem_cons.mpr ⟨lm_43, List.forall_mem_cons.mpr ⟨lm_44, List.forall_mem_cons.mpr ⟨lm_45, List.forall_mem_cons.mpr ⟨lm_46, List.forall_mem_cons.mpr ⟨lm_47, fun _ h => absurd h List.not_mem_nil⟩⟩⟩⟩⟩⟩⟩⟩⟩⟩⟩⟩⟩⟩⟩⟩
def lkM_3 : List (Nat × Nat × Nat × Nat) := [(3, 113, 25, 0), (3, 120, 28, 0), (3, 123, 23, 0), (3, 127, 24, 0), (3, 137, 27, 0), (3, 146, 32, 0), (3, 162, 38, 0), (3, 165, 40, 0), (3, 168, 39, 0), (4, 33, 5, 0), (4, 58, 6, 2), (4, 64, 42, 0), (4, 74, 39, 0), (4, 78, 29, 0), (4, 82, 30, 0), (4, 86, 28, 0)]
theorem lkM_o3 : ∀ q ∈ lkM_3, okM q := List.forall_mem_cons.mpr ⟨lm_48, List.forall_mem_cons.mpr ⟨lm_49, List.forall_mem_cons.mpr ⟨lm_50, List.forall_mem_cons.mpr ⟨lm_51, List.forall_mem_cons.mpr ⟨lm_52, List.forall_mem_cons.mpr ⟨lm_53, List.forall_mem_cons.mpr ⟨lm_54, List.forall_mem_cons.mpr ⟨lm_55, List.forall_mem_cons.mpr ⟨lm_56, List.forall_mem_cons.mpr ⟨lm_57, List.forall_mem_cons.mpr ⟨lm_58, List.forall_mem_cons.mpr ⟨lm_59, List.forall_mem_cons.mpr ⟨lm_60, List.forall_mem_cons.mpr ⟨lm_61, List.forall_mem_cons.mpr ⟨lm_62, List.forall_mem_cons.mpr ⟨lm_63, fun _ h => absurd h List.not_mem_nil⟩⟩⟩⟩⟩⟩⟩⟩⟩⟩⟩⟩⟩⟩⟩⟩
def lkM_4 : List (Nat × Nat × Nat × Nat) := [(4, 89, 59, 0), (4, 92, 62, 2), (4, 97, 60, 0), (4, 100, 78, 0), (4, 103, 100, 0), (4, 110, 95, 0), (5, 36, 59, 0), (5, 40, 60, 0), (5, 46, 61, 0), (5, 53, 64, 2), (5, 57, 62, 2), (5, 65, 63, 2), (5, 70, 58, 0), (5, 74, 69, 0), (5, 77, 70, 0), (5, 83, 68, 0)]
theorem lkM_o4 : ∀ q ∈ lkM_4, okM q := List.forall_mem_cons.mpr ⟨lm_64, List.forall_mem_cons.mpr ⟨lm_65, List.forall_mem_cons.mpr ⟨lm_66, List.forall_mem_cons.mpr ⟨lm_67, List.forall_mem_cons.mpr ⟨lm_68, List.forall_mem_cons.mpr ⟨lm_69, List.forall_mem_cons.mpr ⟨lm_70, List.forall_mem_cons.mpr ⟨lm_71, List.forall_mem_cons.mpr ⟨lm_72, List.forall_mem_cons.mpr ⟨lm_73, List.forall_mem_cons.mpr ⟨lm_74, List.forall_mem_cons.mpr ⟨lm_75, List.forall_mem_cons.mpr ⟨lm_76, List.forall_mem_cons.mpr ⟨lm_77, List.forall_mem_cons.mpr ⟨lm_78, List.forall_mem_cons.mpr ⟨lm_79, fun _ h => absurd h List.not_mem_nil⟩⟩⟩⟩⟩⟩⟩⟩⟩⟩⟩⟩⟩⟩⟩⟩
def lkM_5 : List (Nat × Nat × Nat × Nat) := [(5, 86, 77, 0), (5, 108, 71, 0), (5, 114, 73, 0), (6, 11, 2, 1), (6, 18, 3, 1), (6, 27, 4, 1), (6, 34, 7, 1), (6, 41, 8, 1), (6, 58, 9, 1), (6, 59, 11, 0), (6, 67, 14, 0), (6, 79, 41, 0), (6, 111, 40, 0), (6, 126, 38, 0), (6, 129, 30, 0), (6, 133, 48, 2)]
theorem lkM_o5 : ∀ q ∈ lkM_5, okM q := List.forall_mem_cons.mpr ⟨lm_80, List.forall_mem_cons.mpr ⟨lm_81, List.forall_mem_cons.mpr ⟨lm_82, List.forall_mem_cons.mpr ⟨lm_83, List.forall_mem_cons.mpr ⟨lm_84, List.forall_mem_cons.mpr ⟨lm_85, List.forall_mem_cons.mpr ⟨lm_86, List.forall_mem_cons.mpr ⟨lm_87, List.forall_mem_cons.mpr ⟨lm_88, List.forall_mem_cons.mpr ⟨lm_89, List.forall_mem_cons.mpr ⟨lm_90, List.forall_mem_cons.mpr ⟨lm_91, List.forall_mem_cons.mpr ⟨lm_92, List.forall_mem_cons.mpr ⟨lm_93, List.forall_mem_cons.mpr ⟨lm_94, List.forall_mem_cons.mpr ⟨lm_95, fun _ h => absurd h List.not_mem_nil⟩⟩⟩⟩⟩⟩⟩⟩⟩⟩⟩⟩⟩⟩⟩⟩
def lkM_6 : List (Nat × Nat × Nat × Nat) := [(6, 136, 50, 0), (6, 140, 29, 0), (6, 143, 57, 2), (6, 146, 58, 0), (6, 158, 67, 0), (6, 162, 62, 2), (6, 167, 76, 0), (6, 171, 78, 0), (6, 175, 80, 0), (6, 179, 82, 0), (6, 182, 85, 0), (6, 185, 87, 2), (6, 188, 88, 2), (6, 191, 90, 2), (6, 194, 91, 0), (6, 197, 92, 0)]
theorem lkM_o6 : ∀ q ∈ lkM_6, okM q := List.forall_mem_cons.mpr ⟨lm_96, List.forall_mem_cons.mpr ⟨lm_97, List.forall_mem_cons.mpr ⟨lm_98, List.forall_mem_cons.mpr ⟨lm_99, List.forall_mem_cons.mpr ⟨lm_100, List.forall_mem_cons.mpr ⟨lm_101, List.forall_mem_cons.mpr ⟨lm_102, List.forall_mem_cons.mpr ⟨lm_103, List.forall_mem_cons.mpr ⟨lm_104, List.forall_mem_cons.mpr ⟨lm_105, List.forall_mem_cons.mpr ⟨lm_106, List.forall_mem_cons.mpr ⟨lm_107, List.forall_mem_cons.mpr ⟨lm_108, List.forall_mem_cons.mpr ⟨lm_109, List.forall_mem_cons.mpr ⟨lm_110, List.forall_mem_cons.mpr ⟨lm_111, fun _ h => absurd h List.not_mem_nil⟩⟩⟩⟩⟩⟩⟩⟩⟩⟩⟩⟩⟩⟩⟩⟩
def lkM_7 : List (Nat × Nat × Nat × Nat) := [(6, 201, 94, 0), (6, 204, 95, 0), (6, 208, 102, 0), (6, 211, 105, 0), (6, 214, 107, 0), (6, 218, 96, 2), (6, 222, 111, 0), (6, 228, 113, 0), (6, 232, 116, 0), (6, 236, 117, 2), (6, 249, 121, 0), (6, 252, 124, 0), (6, 255, 126, 0), (6, 258, 131, 2), (6, 261, 132, 2), (6, 264, 133, 0)]
theorem lkM_o7 : ∀ q ∈ lkM_7, okM q := List.forall_mem_cons.mpr ⟨lm_112, List.forall_mem_cons.mpr ⟨lm_113, List.forall_mem_cons.mpr ⟨lm_114, List.forall_mem_cons.mpr ⟨lm_115, List.forall_mem_cons.mpr ⟨lm_116, List.forall_mem_cons.mpr ⟨lm_117, List.forall_mem_cons.mpr ⟨lm_118, List.forall_mem_cons.mpr ⟨lm_119, List.forall_mem_cons.mpr ⟨lm_120, List.forall_mem_cons.mpr ⟨lm_121, List.forall_mem_cons.mpr ⟨lm_122, List.forall_mem_cons.mpr ⟨lm_123, List.forall_mem_cons.mpr ⟨lm_124, List.forall_mem_cons.mpr ⟨lm_125, List.forall_mem_cons.mpr ⟨lm_126, List.forall_mem_cons.mpr ⟨lm_127, fun _ h => absurd h List.not_mem_nil⟩⟩⟩⟩⟩⟩⟩⟩⟩⟩⟩⟩⟩⟩⟩⟩
def lkM_8 : List (Nat × Nat × Nat × Nat) := [(6, 268, 135, 0), (6, 271, 137, 0), (6, 274, 139, 0), (6, 277, 140, 0), (6, 280, 141, 0), (6, 290, 100, 0), (6, 293, 127, 2), (6, 298, 136, 0), (6, 305, 144, 0), (7, 62, 146, 0), (7, 65, 147, 0), (7, 98, 149, 2), (7, 117, 153, 0), (7, 121, 157, 0), (7, 125, 158, 0), (7, 142, 154, 0)]
theorem lkM_o8 : ∀ q ∈ lkM_8, okM q := List.forall_mem_cons.mpr ⟨lm_128, List.forall_mem_cons.mpr ⟨lm_129, List.forall_mem_cons.mpr ⟨lm_130, List.forall_mem_cons.mpr ⟨lm_131, List.forall_mem_cons.mpr ⟨lm_132, List.forall_mem_cons.mpr ⟨lm_133, List.forall_mem_cons.mpr ⟨lm_134, List.forall_mem_cons.mpr ⟨lm_135, List.forall_mem_cons.mpr ⟨lm_136, List.forall_mem_cons.mpr ⟨lm_137, List.forall_mem_cons.mpr ⟨lm_138, List.forall_mem_cons.mpr ⟨lm_139, List.forall_mem_cons.mpr ⟨lm_140, List.forall_mem_cons.mpr ⟨lm_141, List.forall_mem_cons.mpr ⟨lm_142, List.forall_mem_cons.mpr ⟨lm_143, fun _ h => absurd h List.not_mem_nil⟩⟩⟩⟩⟩⟩⟩⟩⟩⟩⟩⟩⟩⟩⟩⟩
def lkM_9 : List (Nat × Nat × Nat × Nat) := [(7, 146, 161, 0), (7, 150, 152, 0), (7, 153, 162, 0), (7, 157, 160, 0), (7, 160, 163, 0), (7, 163, 164, 2), (7, 167, 165, 0), (7, 171, 156, 0), (7, 174, 159, 0), (7, 177, 155, 0), (7, 183, 186, 2), (7, 186, 185, 0), (7, 191, 187, 2), (7, 194, 184, 0), (7, 198, 192, 0), (7, 201, 173, 0)]
theorem lkM_o9 : ∀ q ∈ lkM_9, okM q := List.forall_mem_cons.mpr ⟨lm_144, List.forall_mem_cons.mpr ⟨lm_145, List.forall_mem_cons.mpr ⟨lm_146, List.forall_mem_cons.mpr ⟨lm_147, List.forall_mem_cons.mpr ⟨lm_148, List.forall_mem_cons.mpr ⟨lm_149, List.forall_mem_cons.mpr ⟨lm_150, List.forall_mem_cons.mpr ⟨lm_151, List.forall_mem_cons.mpr ⟨lm_152, List.forall_mem_cons.mpr ⟨lm_153, List.forall_mem_cons.mpr ⟨lm_154, List.forall_mem_cons.mpr ⟨lm_155, List.forall_mem_cons.mpr ⟨lm_156, List.forall_mem_cons.mpr ⟨lm_157, List.forall_mem_cons.mpr ⟨lm_158, List.forall_mem_cons.mpr ⟨lm_159, fun _ h => absurd h List.not_mem_nil⟩⟩⟩⟩⟩⟩⟩⟩⟩⟩⟩⟩⟩⟩⟩⟩
def lkM_10 : List (Nat × Nat × Nat × Nat) := [(7, 204, 189, 0), (7, 207, 177, 0), (7, 211, 193, 0), (7, 214, 194, 2), (7, 217, 191, 0), (7, 221, 197, 0), (7, 224, 205, 0), (7, 227, 169, 0), (7, 232, 171, 0), (7, 235, 172, 0), (7, 238, 175, 0), (7, 248, 202, 2), (7, 251, 203, 0), (7, 254, 204, 0), (7, 263, 211, 2), (7, 268, 217, 0)]
theorem lkM_o10 : ∀ q ∈ lkM_10, okM q := List.forall_mem_cons.mpr ⟨lm_160, List.forall_mem_cons.mpr ⟨lm_161, List.forall_mem_cons.mpr ⟨lm_162, List.forall_mem_cons.mpr ⟨lm_163, List.forall_mem_cons.mpr ⟨lm_164, List.forall_mem_cons.mpr ⟨lm_165, List.forall_mem_cons.mpr ⟨lm_166, List.forall_mem_cons.mpr ⟨lm_167, List.forall_mem_cons.mpr ⟨lm_168, List.forall_mem_cons.mpr ⟨lm_169, List.forall_mem_cons.mpr ⟨lm_170, List.forall_mem_cons.mpr ⟨lm_171, List.forall_mem_cons.mpr ⟨lm_172, List.forall_mem_cons.mpr ⟨lm_173, List.forall_mem_cons.mpr ⟨lm_174, List.forall_mem_cons.mpr ⟨lm_175, fun _ h => absurd h List.not_mem_nil⟩⟩⟩⟩⟩⟩⟩⟩⟩⟩⟩⟩⟩⟩⟩⟩
def lkM_11 : List (Nat × Nat × Nat × Nat) := [(7, 274, 220, 2), (7, 280, 174, 0), (8, 9, 1, 1), (8, 12, 145, 1), (8, 13, 10, 0), (8, 17, 148, 0), (8, 18, 12, 0), (8, 21, 150, 0), (8, 22, 13, 0), (8, 26, 151, 0), (8, 27, 43, 0), (8, 30, 166, 0), (8, 31, 44, 0), (8, 34, 167, 0), (8, 35, 45, 0), (8, 39, 168, 0)]
theorem lkM_o11 : ∀ q ∈ lkM_11, okM q := List.forall_mem_cons.mpr ⟨lm_176, List.forall_mem_cons.mpr ⟨lm_177, List.forall_mem_cons.mpr ⟨lm_178, List.forall_mem_cons.mpr ⟨lm_179, List.forall_mem_cons.mpr ⟨lm_180, List.forall_mem_cons.mpr ⟨lm_181, List.forall_mem_cons.mpr ⟨lm_182, List.forall_mem_cons.mpr ⟨lm_183, List.forall_mem_cons.mpr ⟨lm_184, List.forall_mem_cons.mpr ⟨lm_185, List.forall_mem_cons.mpr ⟨lm_186, List.forall_mem_cons.mpr ⟨lm_187, List.forall_mem_cons.mpr ⟨lm_188, List.forall_mem_cons.mpr ⟨lm_189, List.forall_mem_cons.mpr ⟨lm_190, List.forall_mem_cons.mpr ⟨lm_191, fun _ h => absurd h List.not_mem_nil⟩⟩⟩⟩⟩⟩⟩⟩⟩⟩⟩⟩⟩⟩⟩⟩
def lkM_12 : List (Nat × Nat × Nat × Nat) := [(8, 40, 46, 0), (8, 43, 170, 0), (8, 44, 47, 0), (8, 47, 174, 0), (8, 48, 49, 0), (8, 51, 176, 0), (8, 52, 51, 0), (8, 56, 178, 0), (8, 57, 52, 0), (8, 60, 179, 0), (8, 61, 53, 0), (8, 64, 180, 0), (8, 65, 54, 0), (8, 68, 181, 0), (8, 69, 55, 0), (8, 72, 182, 0)]
theorem lkM_o12 : ∀ q ∈ lkM_12, okM q := List.forall_mem_cons.mpr ⟨lm_192, List.forall_mem_cons.mpr ⟨lm_193, List.forall_mem_cons.mpr ⟨lm_194, List.forall_mem_cons.mpr ⟨lm_195, List.forall_mem_cons.mpr ⟨lm_196, List.forall_mem_cons.mpr ⟨lm_197, List.forall_mem_cons.mpr ⟨lm_198, List.forall_mem_cons.mpr ⟨lm_199, List.forall_mem_cons.mpr ⟨lm_200, List.forall_mem_cons.mpr ⟨lm_201, List.forall_mem_cons.mpr ⟨lm_202, List.forall_mem_cons.mpr ⟨lm_203, List.forall_mem_cons.mpr ⟨lm_204, List.forall_mem_cons.mpr ⟨lm_205, List.forall_mem_cons.mpr ⟨lm_206, List.forall_mem_cons.mpr ⟨lm_207, fun _ h => absurd h List.not_mem_nil⟩⟩⟩⟩⟩⟩⟩⟩⟩⟩⟩⟩⟩⟩⟩⟩
def lkM_13 : List (Nat × Nat × Nat × Nat) := [(8, 73, 56, 0), (8, 76, 183, 0), (8, 77, 65, 0), (8, 80, 188, 0), (8, 81, 66, 0), (8, 84, 190, 0), (8, 85, 74, 0), (8, 88, 195, 0), (8, 89, 75, 0), (8, 92, 196, 0), (8, 93, 79, 0), (8, 97, 198, 0), (8, 98, 81, 0), (8, 101, 199, 0), (8, 102, 84, 0), (8, 105, 200, 0)]
theorem lkM_o13 : ∀ q ∈ lkM_13, okM q := List.forall_mem_cons.mpr ⟨lm_208, List.forall_mem_cons.mpr ⟨lm_209, List.forall_mem_cons.mpr ⟨lm_210, List.forall_mem_cons.mpr ⟨lm_211, List.forall_mem_cons.mpr ⟨lm_212, List.forall_mem_cons.mpr ⟨lm_213, List.forall_mem_cons.mpr ⟨lm_214, List.forall_mem_cons.mpr ⟨lm_215, List.forall_mem_cons.mpr ⟨lm_216, List.forall_mem_cons.mpr ⟨lm_217, List.forall_mem_cons.mpr ⟨lm_218, List.forall_mem_cons.mpr ⟨lm_219, List.forall_mem_cons.mpr ⟨lm_220, List.forall_mem_cons.mpr ⟨lm_221, List.forall_mem_cons.mpr ⟨lm_222, List.forall_mem_cons.mpr ⟨lm_223, fun _ h => absurd h List.not_mem_nil⟩⟩⟩⟩⟩⟩⟩⟩⟩⟩⟩⟩⟩⟩⟩⟩
def lkM_14 : List (Nat × Nat × Nat × Nat) := [(8, 106, 89, 0), (8, 109, 201, 0), (8, 110, 101, 0), (8, 113, 206, 0), (8, 114, 104, 0), (8, 117, 207, 0), (8, 118, 106, 0), (8, 122, 208, 0), (8, 123, 110, 0), (8, 126, 209, 0), (8, 127, 112, 0), (8, 131, 210, 0), (8, 132, 118, 0), (8, 135, 212, 0), (8, 136, 119, 0), (8, 139, 213, 0)]
theorem lkM_o14 : ∀ q ∈ lkM_14, okM q := List.forall_mem_cons.mpr ⟨lm_224, List.forall_mem_cons.mpr ⟨lm_225, List.forall_mem_cons.mpr ⟨lm_226, List.forall_mem_cons.mpr ⟨lm_227, List.forall_mem_cons.mpr ⟨lm_228, List.forall_mem_cons.mpr ⟨lm_229, List.forall_mem_cons.mpr ⟨lm_230, List.forall_mem_cons.mpr ⟨lm_231, List.forall_mem_cons.mpr ⟨lm_232, List.forall_mem_cons.mpr ⟨lm_233, List.forall_mem_cons.mpr ⟨lm_234, List.forall_mem_cons.mpr ⟨lm_235, List.forall_mem_cons.mpr ⟨lm_236, List.forall_mem_cons.mpr ⟨lm_237, List.forall_mem_cons.mpr ⟨lm_238, List.forall_mem_cons.mpr ⟨lm_239, fun _ h => absurd h List.not_mem_nil⟩⟩⟩⟩⟩⟩⟩⟩⟩⟩⟩⟩⟩⟩⟩⟩
def lkM_15 : List (Nat × Nat × Nat × Nat) := [(8, 140, 120, 0), (8, 143, 214, 0), (8, 144, 125, 0), (8, 147, 215, 0), (8, 148, 128, 0), (8, 151, 216, 0), (8, 152, 129, 0), (8, 155, 218, 0), (8, 156, 130, 0), (8, 159, 219, 0), (8, 160, 134, 0), (8, 163, 221, 0), (8, 164, 138, 0), (8, 167, 222, 0), (8, 168, 142, 0), (8, 171, 223, 0)]
theorem lkM_o15 : ∀ q ∈ lkM_15, okM q := List.forall_mem_cons.mpr ⟨lm_240, List.forall_mem_cons.mpr ⟨lm_241, List.forall_mem_cons.mpr ⟨lm_242, List.forall_mem_cons.mpr ⟨lm_243, List.forall_mem_cons.mpr ⟨lm_244, List.forall_mem_cons.mpr ⟨lm_245, List.forall_mem_cons.mpr ⟨lm_246, List.forall_mem_cons.mpr ⟨lm_247, List.forall_mem_cons.mpr ⟨lm_248, List.forall_mem_cons.mpr ⟨lm_249, List.forall_mem_cons.mpr ⟨lm_250, List.forall_mem_cons.mpr ⟨lm_251, List.forall_mem_cons.mpr ⟨lm_252, List.forall_mem_cons.mpr ⟨lm_253, List.forall_mem_cons.mpr ⟨lm_254, List.forall_mem_cons.mpr ⟨lm_255, fun _ h => absurd h List.not_mem_nil⟩⟩⟩⟩⟩⟩⟩⟩⟩⟩⟩⟩⟩⟩⟩⟩
def lkM_16 : List (Nat × Nat × Nat × Nat) := [(8, 172, 143, 0), (8, 175, 224, 0)]
theorem lkM_o16 : ∀ q ∈ lkM_16, okM q := List.forall_mem_cons.mpr ⟨lm_256, List.forall_mem_cons.mpr ⟨lm_257, fun _ h => absurd h List.not_mem_nil⟩⟩
def lkM : List (Nat × Nat × Nat × Nat) := lkM_0 ++ (lkM_1 ++ (lkM_2 ++ (lkM_3 ++ (lkM_4 ++ (lkM_5 ++ (lkM_6 ++ (lkM_7 ++ (lkM_8 ++ (lkM_9 ++ (lkM_10 ++ (lkM_11 ++ (lkM_12 ++ (lkM_13 ++ (lkM_14 ++ (lkM_15 ++ (lkM_16))))))))))))))))
theorem lkM_ok : ∀ q ∈ lkM, okM q := List.forall_mem_append.mpr ⟨lkM_o0, List.forall_mem_append.mpr ⟨lkM_o1, List.forall_mem_append.mpr ⟨lkM_o2, List.forall_mem_append.mpr ⟨lkM_o3, List.forall_mem_append.mpr ⟨lkM_o4, List.forall_mem_append.mpr ⟨lkM_o5, List.forall_mem_append.mpr ⟨lkM_o6, List.forall_mem_append.mpr ⟨lkM_o7, List.forall_mem_append.mpr ⟨lkM_o8, List.forall_mem_append.mpr ⟨lkM_o9, List.forall_mem_append.mpr ⟨lkM_o10, List.forall_mem_append.mpr ⟨lkM_o11, List.forall_mem_append.mpr ⟨lkM_o12, List.forall_mem_append.mpr ⟨lkM_o13, List.forall_mem_append.mpr ⟨lkM_o14, List.forall_mem_append.mpr ⟨lkM_o15, lkM_o16⟩⟩⟩⟩⟩⟩⟩⟩⟩⟩⟩⟩⟩⟩⟩⟩
def okN (q : Nat × Nat × Nat) : Prop := ∃ m2, pm_m q.2.2 = some m2 ∧ pm_hk 2 m2 ∧ (kN q.1, q.2.1, pm_y m2) ∈ pm_nest
theorem ln_0 : okN (0, 62, 93) := ⟨m_93, rfl, hk_93, by decide +kernel⟩
theorem ln_1 : okN (0, 108, 96) := ⟨m_96, rfl, hk_96, by decide +kernel⟩
theorem ln_2 : okN (0, 135, 72) := ⟨m_72, rfl, hk_72, by decide +kernel⟩
theorem ln_3 : okN (4, 106, 96) := ⟨m_96, rfl, hk_96, by decide +kernel⟩
theorem ln_4 : okN (5, 111, 72) := ⟨m_72, rfl, hk_72, by decide +kernel⟩
def lkN_0 : List (Nat × Nat × Nat) := [(0, 62, 93), (0, 108, 96), (0, 135, 72), (4, 106, 96), (5, 111, 72)]
theorem lkN_o0 : ∀ q ∈ lkN_0, okN q := List.forall_mem_cons.mpr ⟨ln_0, List.forall_mem_cons.mpr ⟨ln_1, List.forall_mem_cons.mpr ⟨ln_2, List.forall_mem_cons.mpr ⟨ln_3, List.forall_mem_cons.mpr ⟨ln_4, fun _ h => absurd h List.not_mem_nil⟩⟩⟩⟩⟩
def lkN : List (Nat × Nat × Nat) := lkN_0
theorem lkN_ok : ∀ q ∈ lkN, okN q := lkN_o0
def okC (q : Nat × Nat × Int) : Prop := Cond.constant (kN q.1) q.2.1 (Int32.ofInt q.2.2) ∈ lw_gt
set_option maxRecDepth 100000 in
theorem lc_0 : okC (0, 157, 1103515245) := lw_gi 893 (by decide +kernel) (by decide +kernel)
set_option maxRecDepth 100000 in
theorem lc_1 : okC (7, 247, 1000000) := lw_gi 1313 (by decide +kernel) (by decide +kernel)
set_option maxRecDepth 100000 in
theorem lc_2 : okC (7, 267, 1103515245) := lw_gi 1371 (by decide +kernel) (by decide +kernel)
set_option maxRecDepth 100000 in
theorem lc_3 : okC (11, 265, 1431655765) := lw_gi 897 (by decide +kernel) (by decide +kernel)
set_option maxRecDepth 100000 in
theorem lc_4 : okC (11, 266, 858993459) := lw_gi 898 (by decide +kernel) (by decide +kernel)
set_option maxRecDepth 100000 in
theorem lc_5 : okC (11, 267, 252645135) := lw_gi 899 (by decide +kernel) (by decide +kernel)
def lkC_0 : List (Nat × Nat × Int) := [(0, 157, 1103515245), (7, 247, 1000000), (7, 267, 1103515245), (11, 265, 1431655765), (11, 266, 858993459), (11, 267, 252645135)]
theorem lkC_o0 : ∀ q ∈ lkC_0, okC q := List.forall_mem_cons.mpr ⟨lc_0, List.forall_mem_cons.mpr ⟨lc_1, List.forall_mem_cons.mpr ⟨lc_2, List.forall_mem_cons.mpr ⟨lc_3, List.forall_mem_cons.mpr ⟨lc_4, List.forall_mem_cons.mpr ⟨lc_5, fun _ h => absurd h List.not_mem_nil⟩⟩⟩⟩⟩⟩
def lkC : List (Nat × Nat × Int) := lkC_0
theorem lkC_ok : ∀ q ∈ lkC, okC q := lkC_o0
def okJ (q : Nat × Nat × Int) : Prop := Cond.constantLong (kN q.1) q.2.1 (Int64.ofInt q.2.2) ∈ lw_gt
set_option maxRecDepth 100000 in
theorem lj_0 : okJ (4, 114, 10) := lw_gi 851 (by decide +kernel) (by decide +kernel)
set_option maxRecDepth 100000 in
theorem lj_1 : okJ (4, 116, 128) := lw_gi 719 (by decide +kernel) (by decide +kernel)
set_option maxRecDepth 100000 in
theorem lj_2 : okJ (6, 226, (-1)) := lw_gi 834 (by decide +kernel) (by decide +kernel)
set_option maxRecDepth 100000 in
theorem lj_3 : okJ (7, 96, 127) := lw_gi 1096 (by decide +kernel) (by decide +kernel)
set_option maxRecDepth 100000 in
theorem lj_4 : okJ (7, 131, 97) := lw_gi 1116 (by decide +kernel) (by decide +kernel)
set_option maxRecDepth 100000 in
theorem lj_5 : okJ (7, 133, 122) := lw_gi 1117 (by decide +kernel) (by decide +kernel)
set_option maxRecDepth 100000 in
theorem lj_6 : okJ (7, 135, 48) := lw_gi 1118 (by decide +kernel) (by decide +kernel)
set_option maxRecDepth 100000 in
theorem lj_7 : okJ (7, 137, 57) := lw_gi 1119 (by decide +kernel) (by decide +kernel)
set_option maxRecDepth 100000 in
theorem lj_8 : okJ (7, 189, 4) := lw_gi 1175 (by decide +kernel) (by decide +kernel)
set_option maxRecDepth 100000 in
theorem lj_9 : okJ (7, 230, 3) := lw_gi 1184 (by decide +kernel) (by decide +kernel)
set_option maxRecDepth 100000 in
theorem lj_10 : okJ (7, 241, 9) := lw_gi 1233 (by decide +kernel) (by decide +kernel)
set_option maxRecDepth 100000 in
theorem lj_11 : okJ (7, 243, 60) := lw_gi 1291 (by decide +kernel) (by decide +kernel)
set_option maxRecDepth 100000 in
theorem lj_12 : okJ (7, 245, 12) := lw_gi 1312 (by decide +kernel) (by decide +kernel)
set_option maxRecDepth 100000 in
theorem lj_13 : okJ (7, 257, 10) := lw_gi 1341 (by decide +kernel) (by decide +kernel)
set_option maxRecDepth 100000 in
theorem lj_14 : okJ (7, 259, 13) := lw_gi 1342 (by decide +kernel) (by decide +kernel)
set_option maxRecDepth 100000 in
theorem lj_15 : okJ (7, 261, (-1)) := lw_gi 1351 (by decide +kernel) (by decide +kernel)
set_option maxRecDepth 100000 in
theorem lj_16 : okJ (7, 272, 2) := lw_gi 1391 (by decide +kernel) (by decide +kernel)
set_option maxRecDepth 100000 in
theorem lj_17 : okJ (7, 278, 20) := lw_gi 1400 (by decide +kernel) (by decide +kernel)
def lkJ_0 : List (Nat × Nat × Int) := [(4, 114, 10), (4, 116, 128), (6, 226, (-1)), (7, 96, 127), (7, 131, 97), (7, 133, 122), (7, 135, 48), (7, 137, 57), (7, 189, 4), (7, 230, 3), (7, 241, 9), (7, 243, 60), (7, 245, 12), (7, 257, 10), (7, 259, 13), (7, 261, (-1))]
theorem lkJ_o0 : ∀ q ∈ lkJ_0, okJ q := List.forall_mem_cons.mpr ⟨lj_0, List.forall_mem_cons.mpr ⟨lj_1, List.forall_mem_cons.mpr ⟨lj_2, List.forall_mem_cons.mpr ⟨lj_3, List.forall_mem_cons.mpr ⟨lj_4, List.forall_mem_cons.mpr ⟨lj_5, List.forall_mem_cons.mpr ⟨lj_6, List.forall_mem_cons.mpr ⟨lj_7, List.forall_mem_cons.mpr ⟨lj_8, List.forall_mem_cons.mpr ⟨lj_9, List.forall_mem_cons.mpr ⟨lj_10, List.forall_mem_cons.mpr ⟨lj_11, List.forall_mem_cons.mpr ⟨lj_12, List.forall_mem_cons.mpr ⟨lj_13, List.forall_mem_cons.mpr ⟨lj_14, List.forall_mem_cons.mpr ⟨lj_15, fun _ h => absurd h List.not_mem_nil⟩⟩⟩⟩⟩⟩⟩⟩⟩⟩⟩⟩⟩⟩⟩⟩
def lkJ_1 : List (Nat × Nat × Int) := [(7, 272, 2), (7, 278, 20)]
theorem lkJ_o1 : ∀ q ∈ lkJ_1, okJ q := List.forall_mem_cons.mpr ⟨lj_16, List.forall_mem_cons.mpr ⟨lj_17, fun _ h => absurd h List.not_mem_nil⟩⟩
def lkJ : List (Nat × Nat × Int) := lkJ_0 ++ (lkJ_1)
theorem lkJ_ok : ∀ q ∈ lkJ, okJ q := List.forall_mem_append.mpr ⟨lkJ_o0, lkJ_o1⟩
def okW (q : Nat × Nat × Nat) : Prop := q.2.2 < 8 ∧ Cond.classLink (kN q.1) q.2.1 (kN q.2.2) ∈ lw_gt ∧ Cond.instantiable (kN q.2.2) (kM q.2.2) ∈ lw_gt ∧ Cond.initialized (kN q.2.2) ∈ lw_gt
set_option maxRecDepth 100000 in
theorem lw_w0 : okW (0, 15, 4) := ⟨by decide, lw_gi 286 rfl rfl, lw_gi 121 rfl rfl, lw_gi 62 rfl rfl⟩
set_option maxRecDepth 100000 in
theorem lw_w1 : okW (3, 15, 4) := ⟨by decide, lw_gi 120 rfl rfl, lw_gi 121 rfl rfl, lw_gi 62 rfl rfl⟩
set_option maxRecDepth 100000 in
theorem lw_w2 : okW (6, 9, 2) := ⟨by decide, lw_gi 83 rfl rfl, lw_gi 84 rfl rfl, lw_gi 60 rfl rfl⟩
set_option maxRecDepth 100000 in
theorem lw_w3 : okW (6, 16, 3) := ⟨by decide, lw_gi 114 rfl rfl, lw_gi 115 rfl rfl, lw_gi 61 rfl rfl⟩
set_option maxRecDepth 100000 in
theorem lw_w4 : okW (6, 25, 4) := ⟨by decide, lw_gi 245 rfl rfl, lw_gi 121 rfl rfl, lw_gi 62 rfl rfl⟩
set_option maxRecDepth 100000 in
theorem lw_w5 : okW (6, 32, 5) := ⟨by decide, lw_gi 247 rfl rfl, lw_gi 248 rfl rfl, lw_gi 64 rfl rfl⟩
set_option maxRecDepth 100000 in
theorem lw_w6 : okW (6, 39, 0) := ⟨by decide, lw_gi 280 rfl rfl, lw_gi 281 rfl rfl, lw_gi 65 rfl rfl⟩
set_option maxRecDepth 100000 in
theorem lw_w7 : okW (6, 52, 1) := ⟨by decide, lw_gi 300 rfl rfl, lw_gi 302 rfl rfl, lw_gi 66 rfl rfl⟩
set_option maxRecDepth 100000 in
theorem lw_w8 : okW (8, 7, 6) := ⟨by decide, lw_gi 75 rfl rfl, lw_gi 76 rfl rfl, lw_gi 59 rfl rfl⟩
set_option maxRecDepth 100000 in
theorem lw_w9 : okW (8, 10, 7) := ⟨by decide, lw_gi 971 rfl rfl, lw_gi 972 rfl rfl, lw_gi 67 rfl rfl⟩
def lkW_0 : List (Nat × Nat × Nat) := [(0, 15, 4), (3, 15, 4), (6, 9, 2), (6, 16, 3), (6, 25, 4), (6, 32, 5), (6, 39, 0), (6, 52, 1), (8, 7, 6), (8, 10, 7)]
theorem lkW_o0 : ∀ q ∈ lkW_0, okW q := List.forall_mem_cons.mpr ⟨lw_w0, List.forall_mem_cons.mpr ⟨lw_w1, List.forall_mem_cons.mpr ⟨lw_w2, List.forall_mem_cons.mpr ⟨lw_w3, List.forall_mem_cons.mpr ⟨lw_w4, List.forall_mem_cons.mpr ⟨lw_w5, List.forall_mem_cons.mpr ⟨lw_w6, List.forall_mem_cons.mpr ⟨lw_w7, List.forall_mem_cons.mpr ⟨lw_w8, List.forall_mem_cons.mpr ⟨lw_w9, fun _ h => absurd h List.not_mem_nil⟩⟩⟩⟩⟩⟩⟩⟩⟩⟩
def lkW : List (Nat × Nat × Nat) := lkW_0
theorem lkW_ok : ∀ q ∈ lkW, okW q := lkW_o0
def okA (q : Nat × Nat × Nat) : Prop := (q.2.2 = 4 ∨ q.2.2 = 5) ∧ Cond.classLink (kN q.1) q.2.1 (kN (pm_comp q.2.2)) ∈ lw_gt
set_option maxRecDepth 100000 in
theorem la_0 : okA (6, 25, 4) := ⟨by decide, lw_gi 245 rfl rfl⟩
set_option maxRecDepth 100000 in
theorem la_1 : okA (6, 52, 5) := ⟨by decide, lw_gi 300 rfl rfl⟩
def lkA_0 : List (Nat × Nat × Nat) := [(6, 25, 4), (6, 52, 5)]
theorem lkA_o0 : ∀ q ∈ lkA_0, okA q := List.forall_mem_cons.mpr ⟨la_0, List.forall_mem_cons.mpr ⟨la_1, fun _ h => absurd h List.not_mem_nil⟩⟩
def lkA : List (Nat × Nat × Nat) := lkA_0
theorem lkA_ok : ∀ q ∈ lkA, okA q := lkA_o0
def okO (q : Nat × Nat) : Prop := Cond.methodLink (kN q.1) q.2 objectInit ∈ lw_gt
set_option maxRecDepth 100000 in
theorem lkoq_0 : okO (0, 3) := lw_gi 285 rfl rfl
set_option maxRecDepth 100000 in
theorem lkoq_1 : okO (1, 3) := lw_gi 306 rfl rfl
set_option maxRecDepth 100000 in
theorem lkoq_2 : okO (2, 3) := lw_gi 88 rfl rfl
set_option maxRecDepth 100000 in
theorem lkoq_3 : okO (3, 3) := lw_gi 119 rfl rfl
set_option maxRecDepth 100000 in
theorem lkoq_4 : okO (4, 3) := lw_gi 125 rfl rfl
set_option maxRecDepth 100000 in
theorem lkoq_5 : okO (5, 3) := lw_gi 252 rfl rfl
set_option maxRecDepth 100000 in
theorem lkoq_6 : okO (6, 3) := lw_gi 80 rfl rfl
set_option maxRecDepth 100000 in
theorem lkoq_7 : okO (7, 1) := lw_gi 976 rfl rfl
def lkO_0 : List (Nat × Nat) := [(0, 3), (1, 3), (2, 3), (3, 3), (4, 3), (5, 3), (6, 3), (7, 1)]
theorem lkO_o0 : ∀ q ∈ lkO_0, okO q := List.forall_mem_cons.mpr ⟨lkoq_0, List.forall_mem_cons.mpr ⟨lkoq_1, List.forall_mem_cons.mpr ⟨lkoq_2, List.forall_mem_cons.mpr ⟨lkoq_3, List.forall_mem_cons.mpr ⟨lkoq_4, List.forall_mem_cons.mpr ⟨lkoq_5, List.forall_mem_cons.mpr ⟨lkoq_6, List.forall_mem_cons.mpr ⟨lkoq_7, fun _ h => absurd h List.not_mem_nil⟩⟩⟩⟩⟩⟩⟩⟩
def lkO : List (Nat × Nat) := lkO_0
theorem lkO_ok : ∀ q ∈ lkO, okO q := lkO_o0
def okY (q : Nat × Nat) : Prop := Cond.methodLink (kN q.1) q.2 arraycopyName ∈ lw_gt
set_option maxRecDepth 100000 in
theorem lkyq_0 : okY (4, 68) := lw_gi 535 rfl rfl
def lkY_0 : List (Nat × Nat) := [(4, 68)]
theorem lkY_o0 : ∀ q ∈ lkY_0, okY q := List.forall_mem_cons.mpr ⟨lkyq_0, fun _ h => absurd h List.not_mem_nil⟩
def lkY : List (Nat × Nat) := lkY_0
theorem lkY_ok : ∀ q ∈ lkY, okY q := lkY_o0
end
section
/-! THE METHODS: each entry of the tables is what the bytes decode to, and its links stand (checker). -/
def ck_D (m : pm_M) (pc : Nat) (i : Instr) : Bool := match i with
  | .tableswitch d lo hi offs => (match decode (pm_b m) pc with
    | .ok q => decide (q.1 = .tableswitch d lo hi offs)
    | .error _ => false)
  | i => decide (decode (pm_b m) pc = .ok (i, pm_len i))
theorem ck_D_ok {m : pm_M} {pc : Nat} {i : Instr} (h : ck_D m pc i = true) : pm_okD m pc i := by
  cases i with
  | tableswitch d lo hi offs =>
    have h1 : (match decode (pm_b m) pc with
      | .ok q => decide (q.1 = .tableswitch d lo hi offs)
      | .error _ => false) = true := h
    split at h1
    · rename_i q hq
      obtain ⟨q1, q2⟩ := q
      have h2 : q1 = .tableswitch d lo hi offs := of_decide_eq_true h1
      subst h2
      exact ⟨q2, hq⟩
    · cases h1
  | _ =>
    show decode (pm_b m) pc = Except.ok _
    exact of_decide_eq_true h
def ck_R (m : pm_M) (M2 : Nat) : Bool := match pm_m M2 with
  | some m2 => decide (pm_f m2 + 1 ≤ pm_f m) && decide (8 + (pm_ml m2 + 11) + pm_w m2 ≤ pm_w m)
  | none => false
theorem ck_R_ok {m m2 : pm_M} {M2 : Nat} (h : ck_R m M2 = true) (hm : pm_m M2 = some m2) : pm_rmok m m2 := by
  unfold ck_R at h
  rw [hm] at h
  rw [Bool.and_eq_true] at h
  exact ⟨of_decide_eq_true h.1, of_decide_eq_true h.2⟩
def ck_L (m : pm_M) (pc : Nat) (e : pm_E) : Bool := match e.1 with
  | .ldc ix => if e.2.1 = 0 then decide ((pm_o m, ix, e.2.2.2) ∈ lkC) else true
  | .ldc_w ix => if e.2.1 = 0 then decide ((pm_o m, ix, e.2.2.2) ∈ lkC) else true
  | .ldc2_w ix => decide ((pm_o m, ix, e.2.2.2) ∈ lkJ)
  | .ifCond _ off => decide ((pc : Int) + off = (e.2.1 : Int))
  | .if_icmp _ off => decide ((pc : Int) + off = (e.2.1 : Int))
  | .goto off => decide ((pc : Int) + off = (e.2.1 : Int))
  | .getfield ix => decide ((pm_o m, ix, e.2.1, e.2.2.1) ∈ lkF)
  | .putfield ix => decide ((pm_o m, ix, e.2.1, e.2.2.1) ∈ lkF) && (decide ((kT e.2.1 e.2.2.1).2.2.2 = false) || (decide ((kT e.2.1 e.2.2.1).2.2.2 = true) && (decide ((pm_y m).name = "<init>") && decide (kN e.2.1 = kN (pm_o m)))))
  | .new ix => decide ((pm_o m, ix, e.2.1) ∈ lkW)
  | .anewarray ix => decide ((pm_o m, ix, e.2.1) ∈ lkA)
  | .invokevirtual ix => if e.2.2.1 = 0 then decide ((pm_o m, ix, e.2.1, 0) ∈ lkM) && ck_R m e.2.1 else true
  | .invokespecial ix => if e.2.2.1 = 1 then decide ((pm_o m, ix, e.2.1, 1) ∈ lkM) && ck_R m e.2.1 else if e.2.2.1 = 9 then decide ((pm_o m, ix) ∈ lkO) && (decide (1 ≤ pm_f m) && decide (20 ≤ pm_w m)) else true
  | .invokestatic ix => if e.2.2.1 = 8 then decide ((pm_o m, ix) ∈ lkY) && (decide (1 ≤ pm_f m) && decide (18 ≤ pm_w m)) else if e.2.2.1 = 2 then decide ((pm_o m, ix, e.2.1, 2) ∈ lkM) && ck_R m e.2.1 else if e.2.2.1 = 3 then decide ((pm_o m, ix, e.2.1) ∈ lkN) && ck_R m e.2.1 else true
  | _ => true
theorem ck_L_ok {m : pm_M} {pc : Nat} {e : pm_E} (h : ck_L m pc e = true) : pm_okL pm_m m pc e := by
  obtain ⟨i, a, b, z⟩ := e
  cases i with
  | ldc ix => exact fun ha => lkC_ok _ (of_decide_eq_true ((if_pos ha).symm.trans h))
  | ldc_w ix => exact fun ha => lkC_ok _ (of_decide_eq_true ((if_pos ha).symm.trans h))
  | ldc2_w ix => exact lkJ_ok _ (of_decide_eq_true h)
  | ifCond _ off =>
    show (pc : Int) + off = (a : Int)
    exact of_decide_eq_true h
  | if_icmp _ off =>
    show (pc : Int) + off = (a : Int)
    exact of_decide_eq_true h
  | goto off =>
    show (pc : Int) + off = (a : Int)
    exact of_decide_eq_true h
  | getfield ix => exact lkF_ok _ (of_decide_eq_true h)
  | putfield ix =>
    have h1 := (Bool.and_eq_true _ _ ▸ h : _ ∧ _)
    refine ⟨lkF_ok _ (of_decide_eq_true h1.1), ?_⟩
    have h2 := h1.2
    rw [Bool.or_eq_true, Bool.and_eq_true, Bool.and_eq_true] at h2
    rcases h2 with h2 | h2
    · exact Or.inl (of_decide_eq_true h2)
    · exact Or.inr ⟨of_decide_eq_true h2.1, of_decide_eq_true h2.2.1, of_decide_eq_true h2.2.2⟩
  | new ix => exact lkW_ok _ (of_decide_eq_true h)
  | anewarray ix => exact lkA_ok _ (of_decide_eq_true h)
  | invokevirtual ix =>
    intro hb m2 hm
    have h1 := (if_pos hb).symm.trans h
    rw [Bool.and_eq_true] at h1
    obtain ⟨m3, hm3, hk, hl⟩ := lkM_ok _ (of_decide_eq_true h1.1)
    obtain rfl : m3 = m2 := Option.some.inj (hm3.symm.trans hm)
    exact ⟨hk.1, hl, hk.2.1, hk.2.2.1, hk.2.2.2.1, hk.2.2.2.2, ck_R_ok h1.2 hm⟩
  | invokespecial ix =>
    refine ⟨fun hb m2 hm => ?_, fun hb => ?_⟩
    · have h1 := (if_pos hb).symm.trans h
      rw [Bool.and_eq_true] at h1
      obtain ⟨m3, hm3, hk, hl⟩ := lkM_ok _ (of_decide_eq_true h1.1)
      obtain rfl : m3 = m2 := Option.some.inj (hm3.symm.trans hm)
      exact ⟨hk.1, hl, hk.2.1, hk.2.2.1, hk.2.2.2, ck_R_ok h1.2 hm⟩
    · have hb : b = 9 := hb
      have h0 := (if_neg (by show ¬ b = 1; omega)).symm.trans h
      have h1 := (if_pos hb).symm.trans h0
      rw [Bool.and_eq_true, Bool.and_eq_true] at h1
      exact ⟨lkO_ok _ (of_decide_eq_true h1.1), of_decide_eq_true h1.2.1, of_decide_eq_true h1.2.2⟩
  | invokestatic ix =>
    refine ⟨fun hb => ?_, fun hb m2 hm => ?_, fun hb m2 hm => ?_⟩
    · have h1 := (if_pos hb).symm.trans h
      rw [Bool.and_eq_true, Bool.and_eq_true] at h1
      exact ⟨lkY_ok _ (of_decide_eq_true h1.1), of_decide_eq_true h1.2.1, of_decide_eq_true h1.2.2⟩
    · have hb : b = 2 := hb
      have h0 := (if_neg (by show ¬ b = 8; omega)).symm.trans h
      have h1 := (if_pos hb).symm.trans h0
      rw [Bool.and_eq_true] at h1
      obtain ⟨m3, hm3, hk, hl⟩ := lkM_ok _ (of_decide_eq_true h1.1)
      obtain rfl : m3 = m2 := Option.some.inj (hm3.symm.trans hm)
      exact ⟨hk.1, hl, hk.2, ck_R_ok h1.2 hm⟩
    · have hb : b = 3 := hb
      have h0 := (if_neg (by show ¬ b = 8; omega)).symm.trans h
      have h0 := (if_neg (by show ¬ b = 2; omega)).symm.trans h0
      have h1 := (if_pos hb).symm.trans h0
      rw [Bool.and_eq_true] at h1
      obtain ⟨m3, hm3, hk, hl⟩ := lkN_ok _ (of_decide_eq_true h1.1)
      obtain rfl : m3 = m2 := Option.some.inj (hm3.symm.trans hm)
      exact ⟨hk.1, hl, hk.2, ck_R_ok h1.2 hm⟩
  | _ => exact trivial
def ck_E (m : pm_M) (pc : Nat) (e : Option pm_E) : Bool := match e with
  | some e => ck_D m pc e.1 && ck_L m pc e
  | none => true
def ck_ch (m : pm_M) : List (Option pm_E) → Nat → Bool
  | [], _ => true
  | e :: r, pc => ck_E m pc e && ck_ch m r (pc + 1)
def ck_t (m : pm_M) : List (List (Option pm_E)) → Nat → Bool
  | [], _ => true
  | ch :: r, q => ck_ch m ch (16 * q) && ck_t m r (q + 1)
theorem ck_ch_ok {m : pm_M} : ∀ (ch : List (Option pm_E)) (pc j : Nat) (e : pm_E), ck_ch m ch pc = true → ch[j]? = some (some e) → ck_E m (pc + j) (some e) = true
  | [], _, _, _, _, h => by simp at h
  | e0 :: r, pc, j, e, hc, h => by
    have h1 : ck_E m pc e0 = true ∧ ck_ch m r (pc + 1) = true := by rw [← Bool.and_eq_true]; exact hc
    cases j with
    | zero => cases h; exact h1.1
    | succ j =>
      rw [show pc + (j + 1) = pc + 1 + j by omega]
      exact ck_ch_ok r (pc + 1) j e h1.2 h
theorem ck_t_ok {m : pm_M} : ∀ (t : List (List (Option pm_E))) (q j : Nat) (ch : List (Option pm_E)), ck_t m t q = true → t[j]? = some ch → ck_ch m ch (16 * (q + j)) = true
  | [], _, _, _, _, h => by simp at h
  | c0 :: r, q, j, ch, hc, h => by
    have h1 : ck_ch m c0 (16 * q) = true ∧ ck_t m r (q + 1) = true := by rw [← Bool.and_eq_true]; exact hc
    cases j with
    | zero => cases h; exact h1.1
    | succ j =>
      rw [show q + (j + 1) = q + 1 + j by omega]
      exact ck_t_ok r (q + 1) j ch h1.2 h
theorem ck_ok {m : pm_M} (h : ck_t m (pm_t m) 0 = true) (pc : Nat) (e : pm_E) (he : pm_at m pc = some e) : pm_okD m pc e.1 ∧ pm_okL pm_m m pc e := by
  unfold pm_at at he
  split at he
  · cases he
  · rename_i ch hch
    split at he
    · rename_i e1 he1
      cases he
      have h1 := ck_ch_ok ch _ _ e (ck_t_ok (pm_t m) 0 (pc / 16) ch h hch) he1
      rw [show 16 * (0 + pc / 16) + pc % 16 = pc by omega] at h1
      have h2 : ck_D m pc e.1 = true ∧ ck_L m pc e = true := by rw [← Bool.and_eq_true]; exact h1
      exact ⟨ck_D_ok h2.1, ck_L_ok h2.2⟩
    · cases he
def ck_P (m : pm_M) : Prop := plainFor (pm_y m) = true ∧ kN (pm_o m) = (pm_y m).cls ∧ ck_t m (pm_t m) 0 = true
end
section
/-! THE LAW, checked (printed by wip/gen/gen12.py). -/
theorem cl_0 : ck_ch m_0 l_0 0 = true := by decide +kernel
theorem cl_1 : ck_ch m_0 l_1 16 = true := by decide +kernel
theorem cl_2 : ck_ch m_0 l_2 32 = true := by decide +kernel
theorem cl_3 : ck_ch m_0 l_3 48 = true := by decide +kernel
theorem cl_4 : ck_ch m_0 l_4 64 = true := by decide +kernel
theorem cl_5 : ck_ch m_0 l_5 80 = true := by decide +kernel
theorem cl_6 : ck_ch m_0 l_6 96 = true := by decide +kernel
theorem cl_7 : ck_ch m_0 l_7 112 = true := by decide +kernel
theorem cl_8 : ck_ch m_0 l_8 128 = true := by decide +kernel
end
section
/-! THE LAW, checked (printed by wip/gen/gen12.py). -/
theorem cl_9 : ck_ch m_0 l_9 144 = true := by decide +kernel
theorem cl_10 : ck_ch m_0 l_10 160 = true := by decide +kernel
theorem cl_11 : ck_ch m_0 l_11 176 = true := by decide +kernel
theorem cl_12 : ck_ch m_0 l_12 192 = true := by decide +kernel
theorem cl_13 : ck_ch m_0 l_13 208 = true := by decide +kernel
theorem cl_14 : ck_ch m_0 l_14 224 = true := by decide +kernel
theorem cl_15 : ck_ch m_0 l_15 240 = true := by decide +kernel
theorem cl_16 : ck_ch m_0 l_16 256 = true := by decide +kernel
theorem cl_17 : ck_ch m_0 l_17 272 = true := by decide +kernel
end
section
/-! THE LAW, checked (printed by wip/gen/gen12.py). -/
theorem cl_18 : ck_ch m_0 l_18 288 = true := by decide +kernel
theorem cl_19 : ck_ch m_0 l_19 304 = true := by decide +kernel
theorem cl_20 : ck_ch m_0 l_20 320 = true := by decide +kernel
theorem cl_21 : ck_ch m_0 l_21 336 = true := by decide +kernel
theorem cl_22 : ck_ch m_0 l_22 352 = true := by decide +kernel
theorem cl_23 : ck_ch m_0 l_23 368 = true := by decide +kernel
theorem cl_24 : ck_ch m_0 l_24 384 = true := by decide +kernel
theorem cl_25 : ck_ch m_0 l_25 400 = true := by decide +kernel
theorem cl_26 : ck_ch m_0 l_26 416 = true := by decide +kernel
end
section
/-! THE LAW, checked (printed by wip/gen/gen12.py). -/
theorem cl_27 : ck_ch m_0 l_27 432 = true := by decide +kernel
theorem cl_28 : ck_ch m_0 l_28 448 = true := by decide +kernel
theorem cl_29 : ck_ch m_0 l_29 464 = true := by decide +kernel
theorem cl_30 : ck_ch m_0 l_30 480 = true := by decide +kernel
theorem cl_31 : ck_ch m_0 l_31 496 = true := by decide +kernel
theorem cl_32 : ck_ch m_0 l_32 512 = true := by decide +kernel
theorem cl_33 : ck_ch m_0 l_33 528 = true := by decide +kernel
theorem cl_34 : ck_ch m_0 l_34 544 = true := by decide +kernel
theorem cl_35 : ck_ch m_0 l_35 560 = true := by decide +kernel
end
section
/-! THE LAW, checked (printed by wip/gen/gen12.py). -/
theorem cl_36 : ck_ch m_0 l_36 576 = true := by decide +kernel
theorem cl_37 : ck_ch m_0 l_37 592 = true := by decide +kernel
theorem cl_38 : ck_ch m_0 l_38 608 = true := by decide +kernel
theorem cl_39 : ck_ch m_0 l_39 624 = true := by decide +kernel
theorem cl_40 : ck_ch m_0 l_40 640 = true := by decide +kernel
theorem cl_41 : ck_ch m_0 l_41 656 = true := by decide +kernel
theorem cl_42 : ck_ch m_0 l_42 672 = true := by decide +kernel
theorem cl_43 : ck_ch m_0 l_43 688 = true := by decide +kernel
theorem cl_44 : ck_ch m_0 l_44 704 = true := by decide +kernel
end
section
/-! THE LAW, checked (printed by wip/gen/gen12.py). -/
theorem cl_45 : ck_ch m_0 l_45 720 = true := by decide +kernel
theorem cl_46 : ck_ch m_0 l_46 736 = true := by decide +kernel
theorem cl_47 : ck_ch m_0 l_47 752 = true := by decide +kernel
theorem cl_48 : ck_ch m_0 l_48 768 = true := by decide +kernel
theorem cl_49 : ck_ch m_0 l_49 784 = true := by decide +kernel
theorem cl_50 : ck_ch m_0 l_50 800 = true := by decide +kernel
theorem cl_51 : ck_ch m_0 l_51 816 = true := by decide +kernel
theorem cl_52 : ck_ch m_0 l_52 832 = true := by decide +kernel
theorem cl_53 : ck_ch m_0 l_53 848 = true := by decide +kernel
end
section
/-! THE LAW, checked (printed by wip/gen/gen12.py). -/
theorem cl_54 : ck_ch m_0 l_54 864 = true := by decide +kernel
theorem cl_55 : ck_ch m_0 l_55 880 = true := by decide +kernel
theorem cl_56 : ck_ch m_0 l_56 896 = true := by decide +kernel
theorem cl_57 : ck_ch m_0 l_57 912 = true := by decide +kernel
theorem cl_58 : ck_ch m_0 l_58 928 = true := by decide +kernel
theorem cl_59 : ck_ch m_0 l_59 944 = true := by decide +kernel
theorem cl_60 : ck_ch m_0 l_60 960 = true := by decide +kernel
theorem cl_61 : ck_ch m_0 l_61 976 = true := by decide +kernel
theorem cl_62 : ck_ch m_0 l_62 992 = true := by decide +kernel
end
section
/-! THE LAW, checked (printed by wip/gen/gen12.py). -/
theorem cl_63 : ck_ch m_0 l_63 1008 = true := by decide +kernel
theorem cl_64 : ck_ch m_0 l_64 1024 = true := by decide +kernel
theorem cl_65 : ck_ch m_0 l_65 1040 = true := by decide +kernel
theorem cl_66 : ck_ch m_0 l_66 1056 = true := by decide +kernel
theorem cl_67 : ck_ch m_0 l_67 1072 = true := by decide +kernel
theorem cl_68 : ck_ch m_0 l_68 1088 = true := by decide +kernel
theorem cl_69 : ck_ch m_0 l_69 1104 = true := by decide +kernel
theorem cl_70 : ck_ch m_0 l_70 1120 = true := by decide +kernel
theorem cl_71 : ck_ch m_0 l_71 1136 = true := by decide +kernel
end
section
/-! THE LAW, checked (printed by wip/gen/gen12.py). -/
theorem cl_72 : ck_ch m_0 l_72 1152 = true := by decide +kernel
theorem cl_73 : ck_ch m_0 l_73 1168 = true := by decide +kernel
theorem cl_74 : ck_ch m_0 l_74 1184 = true := by decide +kernel
theorem cl_75 : ck_ch m_0 l_75 1200 = true := by decide +kernel
theorem cl_76 : ck_ch m_0 l_76 1216 = true := by decide +kernel
theorem cl_77 : ck_ch m_0 l_77 1232 = true := by decide +kernel
theorem cl_78 : ck_ch m_0 l_78 1248 = true := by decide +kernel
theorem cl_79 : ck_ch m_0 l_79 1264 = true := by decide +kernel
theorem cl_80 : ck_ch m_0 l_80 1280 = true := by decide +kernel
end
section
/-! THE LAW, checked (printed by wip/gen/gen12.py). -/
theorem cl_81 : ck_ch m_0 l_81 1296 = true := by decide +kernel
theorem cl_82 : ck_ch m_0 l_82 1312 = true := by decide +kernel
theorem cl_83 : ck_ch m_0 l_83 1328 = true := by decide +kernel
end
section
/-! THE METHODS, checked (printed by wip/gen/gen12.py). -/
theorem ck_1 : ck_P m_1 := ⟨by decide +kernel, rfl, by decide +kernel⟩
theorem ck_2 : ck_P m_2 := ⟨by decide +kernel, rfl, by decide +kernel⟩
theorem ck_3 : ck_P m_3 := ⟨by decide +kernel, rfl, by decide +kernel⟩
theorem ck_4 : ck_P m_4 := ⟨by decide +kernel, rfl, by decide +kernel⟩
theorem ck_5 : ck_P m_5 := ⟨by decide +kernel, rfl, by decide +kernel⟩
theorem ck_6 : ck_P m_6 := ⟨by decide +kernel, rfl, by decide +kernel⟩
theorem ck_7 : ck_P m_7 := ⟨by decide +kernel, rfl, by decide +kernel⟩
theorem ck_8 : ck_P m_8 := ⟨by decide +kernel, rfl, by decide +kernel⟩
theorem ck_9 : ck_P m_9 := ⟨by decide +kernel, rfl, by decide +kernel⟩
theorem ck_10 : ck_P m_10 := ⟨by decide +kernel, rfl, by decide +kernel⟩
theorem ck_11 : ck_P m_11 := ⟨by decide +kernel, rfl, by decide +kernel⟩
theorem ck_12 : ck_P m_12 := ⟨by decide +kernel, rfl, by decide +kernel⟩
theorem ck_13 : ck_P m_13 := ⟨by decide +kernel, rfl, by decide +kernel⟩
theorem ck_14 : ck_P m_14 := ⟨by decide +kernel, rfl, by decide +kernel⟩
theorem ck_15 : ck_P m_15 := ⟨by decide +kernel, rfl, by decide +kernel⟩
theorem ck_16 : ck_P m_16 := ⟨by decide +kernel, rfl, by decide +kernel⟩
theorem ck_17 : ck_P m_17 := ⟨by decide +kernel, rfl, by decide +kernel⟩
theorem ck_18 : ck_P m_18 := ⟨by decide +kernel, rfl, by decide +kernel⟩
theorem ck_19 : ck_P m_19 := ⟨by decide +kernel, rfl, by decide +kernel⟩
theorem ck_20 : ck_P m_20 := ⟨by decide +kernel, rfl, by decide +kernel⟩
theorem ck_21 : ck_P m_21 := ⟨by decide +kernel, rfl, by decide +kernel⟩
theorem ck_22 : ck_P m_22 := ⟨by decide +kernel, rfl, by decide +kernel⟩
theorem ck_23 : ck_P m_23 := ⟨by decide +kernel, rfl, by decide +kernel⟩
theorem ck_24 : ck_P m_24 := ⟨by decide +kernel, rfl, by decide +kernel⟩
theorem ck_25 : ck_P m_25 := ⟨by decide +kernel, rfl, by decide +kernel⟩
theorem ck_26 : ck_P m_26 := ⟨by decide +kernel, rfl, by decide +kernel⟩
theorem ck_27 : ck_P m_27 := ⟨by decide +kernel, rfl, by decide +kernel⟩
theorem ck_28 : ck_P m_28 := ⟨by decide +kernel, rfl, by decide +kernel⟩
theorem ck_29 : ck_P m_29 := ⟨by decide +kernel, rfl, by decide +kernel⟩
theorem ck_30 : ck_P m_30 := ⟨by decide +kernel, rfl, by decide +kernel⟩
theorem ck_31 : ck_P m_31 := ⟨by decide +kernel, rfl, by decide +kernel⟩
theorem ck_32 : ck_P m_32 := ⟨by decide +kernel, rfl, by decide +kernel⟩
theorem ck_33 : ck_P m_33 := ⟨by decide +kernel, rfl, by decide +kernel⟩
theorem ck_34 : ck_P m_34 := ⟨by decide +kernel, rfl, by decide +kernel⟩
theorem ck_35 : ck_P m_35 := ⟨by decide +kernel, rfl, by decide +kernel⟩
theorem ck_36 : ck_P m_36 := ⟨by decide +kernel, rfl, by decide +kernel⟩
theorem ck_37 : ck_P m_37 := ⟨by decide +kernel, rfl, by decide +kernel⟩
theorem ck_38 : ck_P m_38 := ⟨by decide +kernel, rfl, by decide +kernel⟩
theorem ck_39 : ck_P m_39 := ⟨by decide +kernel, rfl, by decide +kernel⟩
theorem ck_40 : ck_P m_40 := ⟨by decide +kernel, rfl, by decide +kernel⟩
theorem ck_41 : ck_P m_41 := ⟨by decide +kernel, rfl, by decide +kernel⟩
theorem ck_42 : ck_P m_42 := ⟨by decide +kernel, rfl, by decide +kernel⟩
theorem ck_43 : ck_P m_43 := ⟨by decide +kernel, rfl, by decide +kernel⟩
theorem ck_44 : ck_P m_44 := ⟨by decide +kernel, rfl, by decide +kernel⟩
theorem ck_45 : ck_P m_45 := ⟨by decide +kernel, rfl, by decide +kernel⟩
end
section
/-! THE METHODS, checked (printed by wip/gen/gen12.py). -/
theorem ck_46 : ck_P m_46 := ⟨by decide +kernel, rfl, by decide +kernel⟩
theorem ck_47 : ck_P m_47 := ⟨by decide +kernel, rfl, by decide +kernel⟩
theorem ck_48 : ck_P m_48 := ⟨by decide +kernel, rfl, by decide +kernel⟩
theorem ck_49 : ck_P m_49 := ⟨by decide +kernel, rfl, by decide +kernel⟩
theorem ck_50 : ck_P m_50 := ⟨by decide +kernel, rfl, by decide +kernel⟩
theorem ck_51 : ck_P m_51 := ⟨by decide +kernel, rfl, by decide +kernel⟩
theorem ck_52 : ck_P m_52 := ⟨by decide +kernel, rfl, by decide +kernel⟩
theorem ck_53 : ck_P m_53 := ⟨by decide +kernel, rfl, by decide +kernel⟩
theorem ck_54 : ck_P m_54 := ⟨by decide +kernel, rfl, by decide +kernel⟩
theorem ck_55 : ck_P m_55 := ⟨by decide +kernel, rfl, by decide +kernel⟩
theorem ck_56 : ck_P m_56 := ⟨by decide +kernel, rfl, by decide +kernel⟩
theorem ck_57 : ck_P m_57 := ⟨by decide +kernel, rfl, by decide +kernel⟩
theorem ck_58 : ck_P m_58 := ⟨by decide +kernel, rfl, by decide +kernel⟩
theorem ck_59 : ck_P m_59 := ⟨by decide +kernel, rfl, by decide +kernel⟩
theorem ck_60 : ck_P m_60 := ⟨by decide +kernel, rfl, by decide +kernel⟩
theorem ck_61 : ck_P m_61 := ⟨by decide +kernel, rfl, by decide +kernel⟩
theorem ck_62 : ck_P m_62 := ⟨by decide +kernel, rfl, by decide +kernel⟩
theorem ck_63 : ck_P m_63 := ⟨by decide +kernel, rfl, by decide +kernel⟩
theorem ck_64 : ck_P m_64 := ⟨by decide +kernel, rfl, by decide +kernel⟩
theorem ck_65 : ck_P m_65 := ⟨by decide +kernel, rfl, by decide +kernel⟩
theorem ck_66 : ck_P m_66 := ⟨by decide +kernel, rfl, by decide +kernel⟩
theorem ck_67 : ck_P m_67 := ⟨by decide +kernel, rfl, by decide +kernel⟩
theorem ck_68 : ck_P m_68 := ⟨by decide +kernel, rfl, by decide +kernel⟩
theorem ck_69 : ck_P m_69 := ⟨by decide +kernel, rfl, by decide +kernel⟩
theorem ck_70 : ck_P m_70 := ⟨by decide +kernel, rfl, by decide +kernel⟩
theorem ck_71 : ck_P m_71 := ⟨by decide +kernel, rfl, by decide +kernel⟩
theorem ck_72 : ck_P m_72 := ⟨by decide +kernel, rfl, by decide +kernel⟩
theorem ck_73 : ck_P m_73 := ⟨by decide +kernel, rfl, by decide +kernel⟩
theorem ck_74 : ck_P m_74 := ⟨by decide +kernel, rfl, by decide +kernel⟩
theorem ck_75 : ck_P m_75 := ⟨by decide +kernel, rfl, by decide +kernel⟩
theorem ck_76 : ck_P m_76 := ⟨by decide +kernel, rfl, by decide +kernel⟩
theorem ck_77 : ck_P m_77 := ⟨by decide +kernel, rfl, by decide +kernel⟩
theorem ck_78 : ck_P m_78 := ⟨by decide +kernel, rfl, by decide +kernel⟩
theorem ck_79 : ck_P m_79 := ⟨by decide +kernel, rfl, by decide +kernel⟩
theorem ck_80 : ck_P m_80 := ⟨by decide +kernel, rfl, by decide +kernel⟩
theorem ck_81 : ck_P m_81 := ⟨by decide +kernel, rfl, by decide +kernel⟩
theorem ck_82 : ck_P m_82 := ⟨by decide +kernel, rfl, by decide +kernel⟩
theorem ck_83 : ck_P m_83 := ⟨by decide +kernel, rfl, by decide +kernel⟩
theorem ck_84 : ck_P m_84 := ⟨by decide +kernel, rfl, by decide +kernel⟩
theorem ck_85 : ck_P m_85 := ⟨by decide +kernel, rfl, by decide +kernel⟩
theorem ck_86 : ck_P m_86 := ⟨by decide +kernel, rfl, by decide +kernel⟩
theorem ck_87 : ck_P m_87 := ⟨by decide +kernel, rfl, by decide +kernel⟩
theorem ck_88 : ck_P m_88 := ⟨by decide +kernel, rfl, by decide +kernel⟩
theorem ck_89 : ck_P m_89 := ⟨by decide +kernel, rfl, by decide +kernel⟩
theorem ck_90 : ck_P m_90 := ⟨by decide +kernel, rfl, by decide +kernel⟩
end
section
/-! THE METHODS, checked (printed by wip/gen/gen12.py). -/
theorem ck_91 : ck_P m_91 := ⟨by decide +kernel, rfl, by decide +kernel⟩
theorem ck_92 : ck_P m_92 := ⟨by decide +kernel, rfl, by decide +kernel⟩
theorem ck_93 : ck_P m_93 := ⟨by decide +kernel, rfl, by decide +kernel⟩
theorem ck_94 : ck_P m_94 := ⟨by decide +kernel, rfl, by decide +kernel⟩
theorem ck_95 : ck_P m_95 := ⟨by decide +kernel, rfl, by decide +kernel⟩
theorem ck_96 : ck_P m_96 := ⟨by decide +kernel, rfl, by decide +kernel⟩
theorem ck_97 : ck_P m_97 := ⟨by decide +kernel, rfl, by decide +kernel⟩
theorem ck_98 : ck_P m_98 := ⟨by decide +kernel, rfl, by decide +kernel⟩
theorem ck_99 : ck_P m_99 := ⟨by decide +kernel, rfl, by decide +kernel⟩
theorem ck_100 : ck_P m_100 := ⟨by decide +kernel, rfl, by decide +kernel⟩
theorem ck_101 : ck_P m_101 := ⟨by decide +kernel, rfl, by decide +kernel⟩
theorem ck_102 : ck_P m_102 := ⟨by decide +kernel, rfl, by decide +kernel⟩
theorem ck_103 : ck_P m_103 := ⟨by decide +kernel, rfl, by decide +kernel⟩
theorem ck_104 : ck_P m_104 := ⟨by decide +kernel, rfl, by decide +kernel⟩
theorem ck_105 : ck_P m_105 := ⟨by decide +kernel, rfl, by decide +kernel⟩
theorem ck_106 : ck_P m_106 := ⟨by decide +kernel, rfl, by decide +kernel⟩
theorem ck_107 : ck_P m_107 := ⟨by decide +kernel, rfl, by decide +kernel⟩
theorem ck_108 : ck_P m_108 := ⟨by decide +kernel, rfl, by decide +kernel⟩
theorem ck_109 : ck_P m_109 := ⟨by decide +kernel, rfl, by decide +kernel⟩
theorem ck_110 : ck_P m_110 := ⟨by decide +kernel, rfl, by decide +kernel⟩
theorem ck_111 : ck_P m_111 := ⟨by decide +kernel, rfl, by decide +kernel⟩
theorem ck_112 : ck_P m_112 := ⟨by decide +kernel, rfl, by decide +kernel⟩
theorem ck_113 : ck_P m_113 := ⟨by decide +kernel, rfl, by decide +kernel⟩
theorem ck_114 : ck_P m_114 := ⟨by decide +kernel, rfl, by decide +kernel⟩
theorem ck_115 : ck_P m_115 := ⟨by decide +kernel, rfl, by decide +kernel⟩
theorem ck_116 : ck_P m_116 := ⟨by decide +kernel, rfl, by decide +kernel⟩
theorem ck_117 : ck_P m_117 := ⟨by decide +kernel, rfl, by decide +kernel⟩
theorem ck_118 : ck_P m_118 := ⟨by decide +kernel, rfl, by decide +kernel⟩
theorem ck_119 : ck_P m_119 := ⟨by decide +kernel, rfl, by decide +kernel⟩
theorem ck_120 : ck_P m_120 := ⟨by decide +kernel, rfl, by decide +kernel⟩
theorem ck_121 : ck_P m_121 := ⟨by decide +kernel, rfl, by decide +kernel⟩
theorem ck_122 : ck_P m_122 := ⟨by decide +kernel, rfl, by decide +kernel⟩
theorem ck_123 : ck_P m_123 := ⟨by decide +kernel, rfl, by decide +kernel⟩
theorem ck_124 : ck_P m_124 := ⟨by decide +kernel, rfl, by decide +kernel⟩
theorem ck_125 : ck_P m_125 := ⟨by decide +kernel, rfl, by decide +kernel⟩
theorem ck_126 : ck_P m_126 := ⟨by decide +kernel, rfl, by decide +kernel⟩
theorem ck_127 : ck_P m_127 := ⟨by decide +kernel, rfl, by decide +kernel⟩
theorem ck_128 : ck_P m_128 := ⟨by decide +kernel, rfl, by decide +kernel⟩
theorem ck_129 : ck_P m_129 := ⟨by decide +kernel, rfl, by decide +kernel⟩
theorem ck_130 : ck_P m_130 := ⟨by decide +kernel, rfl, by decide +kernel⟩
theorem ck_131 : ck_P m_131 := ⟨by decide +kernel, rfl, by decide +kernel⟩
theorem ck_132 : ck_P m_132 := ⟨by decide +kernel, rfl, by decide +kernel⟩
theorem ck_133 : ck_P m_133 := ⟨by decide +kernel, rfl, by decide +kernel⟩
theorem ck_134 : ck_P m_134 := ⟨by decide +kernel, rfl, by decide +kernel⟩
theorem ck_135 : ck_P m_135 := ⟨by decide +kernel, rfl, by decide +kernel⟩
end
section
/-! THE METHODS, checked (printed by wip/gen/gen12.py). -/
theorem ck_136 : ck_P m_136 := ⟨by decide +kernel, rfl, by decide +kernel⟩
theorem ck_137 : ck_P m_137 := ⟨by decide +kernel, rfl, by decide +kernel⟩
theorem ck_138 : ck_P m_138 := ⟨by decide +kernel, rfl, by decide +kernel⟩
theorem ck_139 : ck_P m_139 := ⟨by decide +kernel, rfl, by decide +kernel⟩
theorem ck_140 : ck_P m_140 := ⟨by decide +kernel, rfl, by decide +kernel⟩
theorem ck_141 : ck_P m_141 := ⟨by decide +kernel, rfl, by decide +kernel⟩
theorem ck_142 : ck_P m_142 := ⟨by decide +kernel, rfl, by decide +kernel⟩
theorem ck_143 : ck_P m_143 := ⟨by decide +kernel, rfl, by decide +kernel⟩
theorem ck_144 : ck_P m_144 := ⟨by decide +kernel, rfl, by decide +kernel⟩
theorem ck_145 : ck_P m_145 := ⟨by decide +kernel, rfl, by decide +kernel⟩
theorem ck_146 : ck_P m_146 := ⟨by decide +kernel, rfl, by decide +kernel⟩
theorem ck_147 : ck_P m_147 := ⟨by decide +kernel, rfl, by decide +kernel⟩
theorem ck_148 : ck_P m_148 := ⟨by decide +kernel, rfl, by decide +kernel⟩
theorem ck_149 : ck_P m_149 := ⟨by decide +kernel, rfl, by decide +kernel⟩
theorem ck_150 : ck_P m_150 := ⟨by decide +kernel, rfl, by decide +kernel⟩
theorem ck_151 : ck_P m_151 := ⟨by decide +kernel, rfl, by decide +kernel⟩
theorem ck_152 : ck_P m_152 := ⟨by decide +kernel, rfl, by decide +kernel⟩
theorem ck_153 : ck_P m_153 := ⟨by decide +kernel, rfl, by decide +kernel⟩
theorem ck_154 : ck_P m_154 := ⟨by decide +kernel, rfl, by decide +kernel⟩
theorem ck_155 : ck_P m_155 := ⟨by decide +kernel, rfl, by decide +kernel⟩
theorem ck_156 : ck_P m_156 := ⟨by decide +kernel, rfl, by decide +kernel⟩
theorem ck_157 : ck_P m_157 := ⟨by decide +kernel, rfl, by decide +kernel⟩
theorem ck_158 : ck_P m_158 := ⟨by decide +kernel, rfl, by decide +kernel⟩
theorem ck_159 : ck_P m_159 := ⟨by decide +kernel, rfl, by decide +kernel⟩
theorem ck_160 : ck_P m_160 := ⟨by decide +kernel, rfl, by decide +kernel⟩
theorem ck_161 : ck_P m_161 := ⟨by decide +kernel, rfl, by decide +kernel⟩
theorem ck_162 : ck_P m_162 := ⟨by decide +kernel, rfl, by decide +kernel⟩
theorem ck_163 : ck_P m_163 := ⟨by decide +kernel, rfl, by decide +kernel⟩
theorem ck_164 : ck_P m_164 := ⟨by decide +kernel, rfl, by decide +kernel⟩
theorem ck_165 : ck_P m_165 := ⟨by decide +kernel, rfl, by decide +kernel⟩
theorem ck_166 : ck_P m_166 := ⟨by decide +kernel, rfl, by decide +kernel⟩
theorem ck_167 : ck_P m_167 := ⟨by decide +kernel, rfl, by decide +kernel⟩
theorem ck_168 : ck_P m_168 := ⟨by decide +kernel, rfl, by decide +kernel⟩
theorem ck_169 : ck_P m_169 := ⟨by decide +kernel, rfl, by decide +kernel⟩
theorem ck_170 : ck_P m_170 := ⟨by decide +kernel, rfl, by decide +kernel⟩
theorem ck_171 : ck_P m_171 := ⟨by decide +kernel, rfl, by decide +kernel⟩
theorem ck_172 : ck_P m_172 := ⟨by decide +kernel, rfl, by decide +kernel⟩
theorem ck_173 : ck_P m_173 := ⟨by decide +kernel, rfl, by decide +kernel⟩
theorem ck_174 : ck_P m_174 := ⟨by decide +kernel, rfl, by decide +kernel⟩
theorem ck_175 : ck_P m_175 := ⟨by decide +kernel, rfl, by decide +kernel⟩
theorem ck_176 : ck_P m_176 := ⟨by decide +kernel, rfl, by decide +kernel⟩
theorem ck_177 : ck_P m_177 := ⟨by decide +kernel, rfl, by decide +kernel⟩
theorem ck_178 : ck_P m_178 := ⟨by decide +kernel, rfl, by decide +kernel⟩
theorem ck_179 : ck_P m_179 := ⟨by decide +kernel, rfl, by decide +kernel⟩
theorem ck_180 : ck_P m_180 := ⟨by decide +kernel, rfl, by decide +kernel⟩
end
section
/-! THE METHODS, checked (printed by wip/gen/gen12.py). -/
theorem ck_181 : ck_P m_181 := ⟨by decide +kernel, rfl, by decide +kernel⟩
theorem ck_182 : ck_P m_182 := ⟨by decide +kernel, rfl, by decide +kernel⟩
theorem ck_183 : ck_P m_183 := ⟨by decide +kernel, rfl, by decide +kernel⟩
theorem ck_184 : ck_P m_184 := ⟨by decide +kernel, rfl, by decide +kernel⟩
theorem ck_185 : ck_P m_185 := ⟨by decide +kernel, rfl, by decide +kernel⟩
theorem ck_186 : ck_P m_186 := ⟨by decide +kernel, rfl, by decide +kernel⟩
theorem ck_187 : ck_P m_187 := ⟨by decide +kernel, rfl, by decide +kernel⟩
theorem ck_188 : ck_P m_188 := ⟨by decide +kernel, rfl, by decide +kernel⟩
theorem ck_189 : ck_P m_189 := ⟨by decide +kernel, rfl, by decide +kernel⟩
theorem ck_190 : ck_P m_190 := ⟨by decide +kernel, rfl, by decide +kernel⟩
theorem ck_191 : ck_P m_191 := ⟨by decide +kernel, rfl, by decide +kernel⟩
theorem ck_192 : ck_P m_192 := ⟨by decide +kernel, rfl, by decide +kernel⟩
theorem ck_193 : ck_P m_193 := ⟨by decide +kernel, rfl, by decide +kernel⟩
theorem ck_194 : ck_P m_194 := ⟨by decide +kernel, rfl, by decide +kernel⟩
theorem ck_195 : ck_P m_195 := ⟨by decide +kernel, rfl, by decide +kernel⟩
theorem ck_196 : ck_P m_196 := ⟨by decide +kernel, rfl, by decide +kernel⟩
theorem ck_197 : ck_P m_197 := ⟨by decide +kernel, rfl, by decide +kernel⟩
theorem ck_198 : ck_P m_198 := ⟨by decide +kernel, rfl, by decide +kernel⟩
theorem ck_199 : ck_P m_199 := ⟨by decide +kernel, rfl, by decide +kernel⟩
theorem ck_200 : ck_P m_200 := ⟨by decide +kernel, rfl, by decide +kernel⟩
theorem ck_201 : ck_P m_201 := ⟨by decide +kernel, rfl, by decide +kernel⟩
theorem ck_202 : ck_P m_202 := ⟨by decide +kernel, rfl, by decide +kernel⟩
theorem ck_203 : ck_P m_203 := ⟨by decide +kernel, rfl, by decide +kernel⟩
theorem ck_204 : ck_P m_204 := ⟨by decide +kernel, rfl, by decide +kernel⟩
theorem ck_205 : ck_P m_205 := ⟨by decide +kernel, rfl, by decide +kernel⟩
theorem ck_206 : ck_P m_206 := ⟨by decide +kernel, rfl, by decide +kernel⟩
theorem ck_207 : ck_P m_207 := ⟨by decide +kernel, rfl, by decide +kernel⟩
theorem ck_208 : ck_P m_208 := ⟨by decide +kernel, rfl, by decide +kernel⟩
theorem ck_209 : ck_P m_209 := ⟨by decide +kernel, rfl, by decide +kernel⟩
theorem ck_210 : ck_P m_210 := ⟨by decide +kernel, rfl, by decide +kernel⟩
theorem ck_211 : ck_P m_211 := ⟨by decide +kernel, rfl, by decide +kernel⟩
theorem ck_212 : ck_P m_212 := ⟨by decide +kernel, rfl, by decide +kernel⟩
theorem ck_213 : ck_P m_213 := ⟨by decide +kernel, rfl, by decide +kernel⟩
theorem ck_214 : ck_P m_214 := ⟨by decide +kernel, rfl, by decide +kernel⟩
theorem ck_215 : ck_P m_215 := ⟨by decide +kernel, rfl, by decide +kernel⟩
theorem ck_216 : ck_P m_216 := ⟨by decide +kernel, rfl, by decide +kernel⟩
theorem ck_217 : ck_P m_217 := ⟨by decide +kernel, rfl, by decide +kernel⟩
theorem ck_218 : ck_P m_218 := ⟨by decide +kernel, rfl, by decide +kernel⟩
theorem ck_219 : ck_P m_219 := ⟨by decide +kernel, rfl, by decide +kernel⟩
theorem ck_220 : ck_P m_220 := ⟨by decide +kernel, rfl, by decide +kernel⟩
theorem ck_221 : ck_P m_221 := ⟨by decide +kernel, rfl, by decide +kernel⟩
theorem ck_222 : ck_P m_222 := ⟨by decide +kernel, rfl, by decide +kernel⟩
theorem ck_223 : ck_P m_223 := ⟨by decide +kernel, rfl, by decide +kernel⟩
theorem ck_224 : ck_P m_224 := ⟨by decide +kernel, rfl, by decide +kernel⟩
end
section
/-! ALL METHODS, checked. -/
theorem ck_cons {m : pm_M} {ch : List (Option pm_E)} {r : List (List (Option pm_E))} {q : Nat} (h1 : ck_ch m ch (16 * q) = true) (h2 : ck_t m r (q + 1) = true) : ck_t m (ch :: r) q = true := by
  show (ck_ch m ch (16 * q) && ck_t m r (q + 1)) = true
  rw [h1, h2]
  rfl
set_option maxRecDepth 20000 in
theorem ck_0 : ck_P m_0 := ⟨by decide +kernel, rfl, ck_cons (q := 0) cl_0 (ck_cons (q := 1) cl_1 (ck_cons (q := 2) cl_2 (ck_cons (q := 3) cl_3 (ck_cons (q := 4) cl_4 (ck_cons (q := 5) cl_5 (ck_cons (q := 6) cl_6 (ck_cons (q := 7) cl_7 (ck_cons (q := 8) cl_8 (ck_cons (q := 9) cl_9 (ck_cons (q := 10) cl_10 (ck_cons (q := 11) cl_11 (ck_cons (q := 12) cl_12 (ck_cons (q := 13) cl_13 (ck_cons (q := 14) cl_14 (ck_cons (q := 15) cl_15 (ck_cons (q := 16) cl_16 (ck_cons (q := 17) cl_17 (ck_cons (q := 18) cl_18 (ck_cons (q := 19) cl_19 (ck_cons (q := 20) cl_20 (ck_cons (q := 21) cl_21 (ck_cons (q := 22) cl_22 (ck_cons (q := 23) cl_23 (ck_cons (q := 24) cl_24 (ck_cons (q := 25) cl_25 (ck_cons (q := 26) cl_26 (ck_cons (q := 27) cl_27 (ck_cons (q := 28) cl_28 (ck_cons (q := 29) cl_29 (ck_cons (q := 30) cl_30 (ck_cons (q := 31) cl_31 (ck_cons (q := 32) cl_32 (ck_cons (q := 33) cl_33 (ck_cons (q := 34) cl_34 (ck_cons (q := 35) cl_35 (ck_cons (q := 36) cl_36 (ck_cons (q := 37) cl_37 (ck_cons (q := 38) cl_38 (ck_cons (q := 39) cl_39 (ck_cons (q := 40) cl_40 (ck_cons (q := 41) cl_41 (ck_cons (q := 42) cl_42 (ck_cons (q := 43) cl_43 (ck_cons (q := 44) cl_44 (ck_cons (q := 45) cl_45 (ck_cons (q := 46) cl_46 (ck_cons (q := 47) cl_47 (ck_cons (q := 48) cl_48 (ck_cons (q := 49) cl_49 (ck_cons (q := 50) cl_50 (ck_cons (q := 51) cl_51 (ck_cons (q := 52) cl_52 (ck_cons (q := 53) cl_53 (ck_cons (q := 54) cl_54 (ck_cons (q := 55) cl_55 (ck_cons (q := 56) cl_56 (ck_cons (q := 57) cl_57 (ck_cons (q := 58) cl_58 (ck_cons (q := 59) cl_59 (ck_cons (q := 60) cl_60 (ck_cons (q := 61) cl_61 (ck_cons (q := 62) cl_62 (ck_cons (q := 63) cl_63 (ck_cons (q := 64) cl_64 (ck_cons (q := 65) cl_65 (ck_cons (q := 66) cl_66 (ck_cons (q := 67) cl_67 (ck_cons (q := 68) cl_68 (ck_cons (q := 69) cl_69 (ck_cons (q := 70) cl_70 (ck_cons (q := 71) cl_71 (ck_cons (q := 72) cl_72 (ck_cons (q := 73) cl_73 (ck_cons (q := 74) cl_74 (ck_cons (q := 75) cl_75 (ck_cons (q := 76) cl_76 (ck_cons (q := 77) cl_77 (ck_cons (q := 78) cl_78 (ck_cons (q := 79) cl_79 (ck_cons (q := 80) cl_80 (ck_cons (q := 81) cl_81 (ck_cons (q := 82) cl_82 (ck_cons (q := 83) cl_83 (rfl))))))))))))))))))))))))))))))))))))))))))))))))))))))))))))))))))))))))))))))))))))⟩
theorem ck_q0 : ∀ m ∈ pm_q0, ck_P m := List.forall_mem_cons.mpr ⟨ck_0, List.forall_mem_cons.mpr ⟨ck_1, List.forall_mem_cons.mpr ⟨ck_2, List.forall_mem_cons.mpr ⟨ck_3, List.forall_mem_cons.mpr ⟨ck_4, List.forall_mem_cons.mpr ⟨ck_5, List.forall_mem_cons.mpr ⟨ck_6, List.forall_mem_cons.mpr ⟨ck_7, List.forall_mem_cons.mpr ⟨ck_8, List.forall_mem_cons.mpr ⟨ck_9, List.forall_mem_cons.mpr ⟨ck_10, List.forall_mem_cons.mpr ⟨ck_11, List.forall_mem_cons.mpr ⟨ck_12, List.forall_mem_cons.mpr ⟨ck_13, List.forall_mem_cons.mpr ⟨ck_14, List.forall_mem_cons.mpr ⟨ck_15, fun _ h => absurd h List.not_mem_nil⟩⟩⟩⟩⟩⟩⟩⟩⟩⟩⟩⟩⟩⟩⟩⟩
theorem ck_q1 : ∀ m ∈ pm_q1, ck_P m := List.forall_mem_cons.mpr ⟨ck_16, List.forall_mem_cons.mpr ⟨ck_17, List.forall_mem_cons.mpr ⟨ck_18, List.forall_mem_cons.mpr ⟨ck_19, List.forall_mem_cons.mpr ⟨ck_20, List.forall_mem_cons.mpr ⟨ck_21, List.forall_mem_cons.mpr ⟨ck_22, List.forall_mem_cons.mpr ⟨ck_23, List.forall_mem_cons.mpr ⟨ck_24, List.forall_mem_cons.mpr ⟨ck_25, List.forall_mem_cons.mpr ⟨ck_26, List.forall_mem_cons.mpr ⟨ck_27, List.forall_mem_cons.mpr ⟨ck_28, List.forall_mem_cons.mpr ⟨ck_29, List.forall_mem_cons.mpr ⟨ck_30, List.forall_mem_cons.mpr ⟨ck_31, fun _ h => absurd h List.not_mem_nil⟩⟩⟩⟩⟩⟩⟩⟩⟩⟩⟩⟩⟩⟩⟩⟩
theorem ck_q2 : ∀ m ∈ pm_q2, ck_P m := List.forall_mem_cons.mpr ⟨ck_32, List.forall_mem_cons.mpr ⟨ck_33, List.forall_mem_cons.mpr ⟨ck_34, List.forall_mem_cons.mpr ⟨ck_35, List.forall_mem_cons.mpr ⟨ck_36, List.forall_mem_cons.mpr ⟨ck_37, List.forall_mem_cons.mpr ⟨ck_38, List.forall_mem_cons.mpr ⟨ck_39, List.forall_mem_cons.mpr ⟨ck_40, List.forall_mem_cons.mpr ⟨ck_41, List.forall_mem_cons.mpr ⟨ck_42, List.forall_mem_cons.mpr ⟨ck_43, List.forall_mem_cons.mpr ⟨ck_44, List.forall_mem_cons.mpr ⟨ck_45, List.forall_mem_cons.mpr ⟨ck_46, List.forall_mem_cons.mpr ⟨ck_47, fun _ h => absurd h List.not_mem_nil⟩⟩⟩⟩⟩⟩⟩⟩⟩⟩⟩⟩⟩⟩⟩⟩
theorem ck_q3 : ∀ m ∈ pm_q3, ck_P m := List.forall_mem_cons.mpr ⟨ck_48, List.forall_mem_cons.mpr ⟨ck_49, List.forall_mem_cons.mpr ⟨ck_50, List.forall_mem_cons.mpr ⟨ck_51, List.forall_mem_cons.mpr ⟨ck_52, List.forall_mem_cons.mpr ⟨ck_53, List.forall_mem_cons.mpr ⟨ck_54, List.forall_mem_cons.mpr ⟨ck_55, List.forall_mem_cons.mpr ⟨ck_56, List.forall_mem_cons.mpr ⟨ck_57, List.forall_mem_cons.mpr ⟨ck_58, List.forall_mem_cons.mpr ⟨ck_59, List.forall_mem_cons.mpr ⟨ck_60, List.forall_mem_cons.mpr ⟨ck_61, List.forall_mem_cons.mpr ⟨ck_62, List.forall_mem_cons.mpr ⟨ck_63, fun _ h => absurd h List.not_mem_nil⟩⟩⟩⟩⟩⟩⟩⟩⟩⟩⟩⟩⟩⟩⟩⟩
theorem ck_q4 : ∀ m ∈ pm_q4, ck_P m := List.forall_mem_cons.mpr ⟨ck_64, List.forall_mem_cons.mpr ⟨ck_65, List.forall_mem_cons.mpr ⟨ck_66, List.forall_mem_cons.mpr ⟨ck_67, List.forall_mem_cons.mpr ⟨ck_68, List.forall_mem_cons.mpr ⟨ck_69, List.forall_mem_cons.mpr ⟨ck_70, List.forall_mem_cons.mpr ⟨ck_71, List.forall_mem_cons.mpr ⟨ck_72, List.forall_mem_cons.mpr ⟨ck_73, List.forall_mem_cons.mpr ⟨ck_74, List.forall_mem_cons.mpr ⟨ck_75, List.forall_mem_cons.mpr ⟨ck_76, List.forall_mem_cons.mpr ⟨ck_77, List.forall_mem_cons.mpr ⟨ck_78, List.forall_mem_cons.mpr ⟨ck_79, fun _ h => absurd h List.not_mem_nil⟩⟩⟩⟩⟩⟩⟩⟩⟩⟩⟩⟩⟩⟩⟩⟩
theorem ck_q5 : ∀ m ∈ pm_q5, ck_P m := List.forall_mem_cons.mpr ⟨ck_80, List.forall_mem_cons.mpr ⟨ck_81, List.forall_mem_cons.mpr ⟨ck_82, List.forall_mem_cons.mpr ⟨ck_83, List.forall_mem_cons.mpr ⟨ck_84, List.forall_mem_cons.mpr ⟨ck_85, List.forall_mem_cons.mpr ⟨ck_86, List.forall_mem_cons.mpr ⟨ck_87, List.forall_mem_cons.mpr ⟨ck_88, List.forall_mem_cons.mpr ⟨ck_89, List.forall_mem_cons.mpr ⟨ck_90, List.forall_mem_cons.mpr ⟨ck_91, List.forall_mem_cons.mpr ⟨ck_92, List.forall_mem_cons.mpr ⟨ck_93, List.forall_mem_cons.mpr ⟨ck_94, List.forall_mem_cons.mpr ⟨ck_95, fun _ h => absurd h List.not_mem_nil⟩⟩⟩⟩⟩⟩⟩⟩⟩⟩⟩⟩⟩⟩⟩⟩
theorem ck_q6 : ∀ m ∈ pm_q6, ck_P m := List.forall_mem_cons.mpr ⟨ck_96, List.forall_mem_cons.mpr ⟨ck_97, List.forall_mem_cons.mpr ⟨ck_98, List.forall_mem_cons.mpr ⟨ck_99, List.forall_mem_cons.mpr ⟨ck_100, List.forall_mem_cons.mpr ⟨ck_101, List.forall_mem_cons.mpr ⟨ck_102, List.forall_mem_cons.mpr ⟨ck_103, List.forall_mem_cons.mpr ⟨ck_104, List.forall_mem_cons.mpr ⟨ck_105, List.forall_mem_cons.mpr ⟨ck_106, List.forall_mem_cons.mpr ⟨ck_107, List.forall_mem_cons.mpr ⟨ck_108, List.forall_mem_cons.mpr ⟨ck_109, List.forall_mem_cons.mpr ⟨ck_110, List.forall_mem_cons.mpr ⟨ck_111, fun _ h => absurd h List.not_mem_nil⟩⟩⟩⟩⟩⟩⟩⟩⟩⟩⟩⟩⟩⟩⟩⟩
theorem ck_q7 : ∀ m ∈ pm_q7, ck_P m := List.forall_mem_cons.mpr ⟨ck_112, List.forall_mem_cons.mpr ⟨ck_113, List.forall_mem_cons.mpr ⟨ck_114, List.forall_mem_cons.mpr ⟨ck_115, List.forall_mem_cons.mpr ⟨ck_116, List.forall_mem_cons.mpr ⟨ck_117, List.forall_mem_cons.mpr ⟨ck_118, List.forall_mem_cons.mpr ⟨ck_119, List.forall_mem_cons.mpr ⟨ck_120, List.forall_mem_cons.mpr ⟨ck_121, List.forall_mem_cons.mpr ⟨ck_122, List.forall_mem_cons.mpr ⟨ck_123, List.forall_mem_cons.mpr ⟨ck_124, List.forall_mem_cons.mpr ⟨ck_125, List.forall_mem_cons.mpr ⟨ck_126, List.forall_mem_cons.mpr ⟨ck_127, fun _ h => absurd h List.not_mem_nil⟩⟩⟩⟩⟩⟩⟩⟩⟩⟩⟩⟩⟩⟩⟩⟩
theorem ck_q8 : ∀ m ∈ pm_q8, ck_P m := List.forall_mem_cons.mpr ⟨ck_128, List.forall_mem_cons.mpr ⟨ck_129, List.forall_mem_cons.mpr ⟨ck_130, List.forall_mem_cons.mpr ⟨ck_131, List.forall_mem_cons.mpr ⟨ck_132, List.forall_mem_cons.mpr ⟨ck_133, List.forall_mem_cons.mpr ⟨ck_134, List.forall_mem_cons.mpr ⟨ck_135, List.forall_mem_cons.mpr ⟨ck_136, List.forall_mem_cons.mpr ⟨ck_137, List.forall_mem_cons.mpr ⟨ck_138, List.forall_mem_cons.mpr ⟨ck_139, List.forall_mem_cons.mpr ⟨ck_140, List.forall_mem_cons.mpr ⟨ck_141, List.forall_mem_cons.mpr ⟨ck_142, List.forall_mem_cons.mpr ⟨ck_143, fun _ h => absurd h List.not_mem_nil⟩⟩⟩⟩⟩⟩⟩⟩⟩⟩⟩⟩⟩⟩⟩⟩
theorem ck_q9 : ∀ m ∈ pm_q9, ck_P m := List.forall_mem_cons.mpr ⟨ck_144, List.forall_mem_cons.mpr ⟨ck_145, List.forall_mem_cons.mpr ⟨ck_146, List.forall_mem_cons.mpr ⟨ck_147, List.forall_mem_cons.mpr ⟨ck_148, List.forall_mem_cons.mpr ⟨ck_149, List.forall_mem_cons.mpr ⟨ck_150, List.forall_mem_cons.mpr ⟨ck_151, List.forall_mem_cons.mpr ⟨ck_152, List.forall_mem_cons.mpr ⟨ck_153, List.forall_mem_cons.mpr ⟨ck_154, List.forall_mem_cons.mpr ⟨ck_155, List.forall_mem_cons.mpr ⟨ck_156, List.forall_mem_cons.mpr ⟨ck_157, List.forall_mem_cons.mpr ⟨ck_158, List.forall_mem_cons.mpr ⟨ck_159, fun _ h => absurd h List.not_mem_nil⟩⟩⟩⟩⟩⟩⟩⟩⟩⟩⟩⟩⟩⟩⟩⟩
theorem ck_q10 : ∀ m ∈ pm_q10, ck_P m := List.forall_mem_cons.mpr ⟨ck_160, List.forall_mem_cons.mpr ⟨ck_161, List.forall_mem_cons.mpr ⟨ck_162, List.forall_mem_cons.mpr ⟨ck_163, List.forall_mem_cons.mpr ⟨ck_164, List.forall_mem_cons.mpr ⟨ck_165, List.forall_mem_cons.mpr ⟨ck_166, List.forall_mem_cons.mpr ⟨ck_167, List.forall_mem_cons.mpr ⟨ck_168, List.forall_mem_cons.mpr ⟨ck_169, List.forall_mem_cons.mpr ⟨ck_170, List.forall_mem_cons.mpr ⟨ck_171, List.forall_mem_cons.mpr ⟨ck_172, List.forall_mem_cons.mpr ⟨ck_173, List.forall_mem_cons.mpr ⟨ck_174, List.forall_mem_cons.mpr ⟨ck_175, fun _ h => absurd h List.not_mem_nil⟩⟩⟩⟩⟩⟩⟩⟩⟩⟩⟩⟩⟩⟩⟩⟩
theorem ck_q11 : ∀ m ∈ pm_q11, ck_P m := List.forall_mem_cons.mpr ⟨ck_176, List.forall_mem_cons.mpr ⟨ck_177, List.forall_mem_cons.mpr ⟨ck_178, List.forall_mem_cons.mpr ⟨ck_179, List.forall_mem_cons.mpr ⟨ck_180, List.forall_mem_cons.mpr ⟨ck_181, List.forall_mem_cons.mpr ⟨ck_182, List.forall_mem_cons.mpr ⟨ck_183, List.forall_mem_cons.mpr ⟨ck_184, List.forall_mem_cons.mpr ⟨ck_185, List.forall_mem_cons.mpr ⟨ck_186, List.forall_mem_cons.mpr ⟨ck_187, List.forall_mem_cons.mpr ⟨ck_188, List.forall_mem_cons.mpr ⟨ck_189, List.forall_mem_cons.mpr ⟨ck_190, List.forall_mem_cons.mpr ⟨ck_191, fun _ h => absurd h List.not_mem_nil⟩⟩⟩⟩⟩⟩⟩⟩⟩⟩⟩⟩⟩⟩⟩⟩
theorem ck_q12 : ∀ m ∈ pm_q12, ck_P m := List.forall_mem_cons.mpr ⟨ck_192, List.forall_mem_cons.mpr ⟨ck_193, List.forall_mem_cons.mpr ⟨ck_194, List.forall_mem_cons.mpr ⟨ck_195, List.forall_mem_cons.mpr ⟨ck_196, List.forall_mem_cons.mpr ⟨ck_197, List.forall_mem_cons.mpr ⟨ck_198, List.forall_mem_cons.mpr ⟨ck_199, List.forall_mem_cons.mpr ⟨ck_200, List.forall_mem_cons.mpr ⟨ck_201, List.forall_mem_cons.mpr ⟨ck_202, List.forall_mem_cons.mpr ⟨ck_203, List.forall_mem_cons.mpr ⟨ck_204, List.forall_mem_cons.mpr ⟨ck_205, List.forall_mem_cons.mpr ⟨ck_206, List.forall_mem_cons.mpr ⟨ck_207, fun _ h => absurd h List.not_mem_nil⟩⟩⟩⟩⟩⟩⟩⟩⟩⟩⟩⟩⟩⟩⟩⟩
theorem ck_q13 : ∀ m ∈ pm_q13, ck_P m := List.forall_mem_cons.mpr ⟨ck_208, List.forall_mem_cons.mpr ⟨ck_209, List.forall_mem_cons.mpr ⟨ck_210, List.forall_mem_cons.mpr ⟨ck_211, List.forall_mem_cons.mpr ⟨ck_212, List.forall_mem_cons.mpr ⟨ck_213, List.forall_mem_cons.mpr ⟨ck_214, List.forall_mem_cons.mpr ⟨ck_215, List.forall_mem_cons.mpr ⟨ck_216, List.forall_mem_cons.mpr ⟨ck_217, List.forall_mem_cons.mpr ⟨ck_218, List.forall_mem_cons.mpr ⟨ck_219, List.forall_mem_cons.mpr ⟨ck_220, List.forall_mem_cons.mpr ⟨ck_221, List.forall_mem_cons.mpr ⟨ck_222, List.forall_mem_cons.mpr ⟨ck_223, fun _ h => absurd h List.not_mem_nil⟩⟩⟩⟩⟩⟩⟩⟩⟩⟩⟩⟩⟩⟩⟩⟩
theorem ck_q14 : ∀ m ∈ pm_q14, ck_P m := List.forall_mem_cons.mpr ⟨ck_224, fun _ h => absurd h List.not_mem_nil⟩
theorem ck_mt : ∀ q ∈ pm_mt, ∀ m ∈ q, ck_P m := List.forall_mem_cons.mpr ⟨ck_q0, List.forall_mem_cons.mpr ⟨ck_q1, List.forall_mem_cons.mpr ⟨ck_q2, List.forall_mem_cons.mpr ⟨ck_q3, List.forall_mem_cons.mpr ⟨ck_q4, List.forall_mem_cons.mpr ⟨ck_q5, List.forall_mem_cons.mpr ⟨ck_q6, List.forall_mem_cons.mpr ⟨ck_q7, List.forall_mem_cons.mpr ⟨ck_q8, List.forall_mem_cons.mpr ⟨ck_q9, List.forall_mem_cons.mpr ⟨ck_q10, List.forall_mem_cons.mpr ⟨ck_q11, List.forall_mem_cons.mpr ⟨ck_q12, List.forall_mem_cons.mpr ⟨ck_q13, List.forall_mem_cons.mpr ⟨ck_q14, fun _ h => absurd h List.not_mem_nil⟩⟩⟩⟩⟩⟩⟩⟩⟩⟩⟩⟩⟩⟩⟩
theorem pm_tab : pm_tabok pm_m := by
  intro M mm hM
  unfold pm_m at hM
  split at hM
  · cases hM
  · split at hM
    · rename_i q hq
      have h := ck_mt q (List.mem_of_getElem? hq) mm (List.mem_of_getElem? hM)
      exact ⟨h.1, h.2.1, ck_ok h.2.2⟩
    · cases hM
end
section
/-! THE LAW OUT OF A PURE RUN (its head is the skeleton's). -/
def R_law : String := "MoodTownLaw"
def lw_P (b : Addr) (xs : List Int32) (args : Array Value) (s : State) : Prop := args = #[.ref b] ∧ s.IntsAt b xs ∧ xs.length ≤ 5 ∧ (Jvm.Cond.and given_1 narrow_1).before args s = true
def lw_Q (_ : Array Value) (s : State) (o : Outcome) (t : State) : Prop := o = .returned (some (.int 1)) ∧ Framed s o t [] 600000 7302250
def lw_Z (below : List Frame) (a : Array Value) (s : State) : State → Prop := fun t => ∃ o, t.status = .running ∧ Ended t below o ∧ lw_Q a s o t
/-- the law's own end, with 1 on the stack, nothing written that was there before, its room as the claim has it -/
theorem lw_ret {p : Program} {l : Launch} {e : Env} {s : State} {m : MethodId} {below : List Frame} {meth : Method} {c : Code} {b : Nat} (hx : p.tables.exec = Jvm.exec) (hb : c.code = code) (hr : meth.sig.returnType = ret) (hlocks : meth.locks = false) {pc : Nat} {H : Heap} {ls : Array Slot} (hdg : decode code pc = .ok (.ireturn, 1)) : W p l e room_1 s m #[Value.ref b] below meth c H [] 600000 7302250 (lw_Z below #[Value.ref b] s) (F0 m pc ls [.int 1]) := by
  intro T hT X
  obtain ⟨fs, hret, hrun, hended, hW, hframe⟩ := X.leave (v := some (.int 1)) (hlocks := hlocks) (fun h => by rw [hr] at h; cases h)
  have hmeth' : T.vm.method? m = some meth := X.method'
  refine ⟨T.setFrames fs, ?_, .returned (some (.int 1)), hrun, hended, rfl, ⟨_, rfl⟩, hW, hframe⟩
  jvm_step X.here [X.here.top, hx, hb, hdg, hmeth', hr, ret, narrow_b1]
  (try refine ⟨rfl, ?_⟩); (try refine ⟨rfl, ?_⟩)
  first | (intro acts; rw [hret _ acts rfl rfl rfl]) | rw [hret _ _ rfl rfl rfl]
  exact Steps.refl _
/-- what holds at the law's entry: the machine, the code, the tables' words (any of lw_tbl by 'hts w (by decide +kernel)'), the script of L ints xs at the cell b, what the Statement gives of the start (any of its parts by flat_of_before) -/
def lw_At (p : Program) (s : State) (m : MethodId) (meth : Method) (c : Code) (b L : Nat) (xs : Nat → Int32) : Prop :=
  p.tables.exec = Jvm.exec ∧ c.code = code ∧ meth.sig.returnType = ret ∧ c.maxLocals = 4 ∧ s.vm.findClass R_law = some m.cls ∧ (∀ w ∈ lw_tbl, w.before #[Value.ref b] s = true) ∧ va_X b L xs s s.heap ∧ b < s.heap.size ∧ meth.locks = false ∧ (Jvm.Cond.and given_1 narrow_1).before #[Value.ref b] s = true
theorem pm_known {args : Array Value} {s : State} (hts : ∀ w ∈ lw_tbl, w.before args s = true) : ∃ (dC : Nat → ClassId) (dI : Nat → Nat → Nat), ∀ (k : Nat) (q : vw_C), kC[k]? = some q → u_Kn s q.1 q.2.1 q.2.2 (dC k) (dI k) := by
  have hgt : ∀ w ∈ lw_gt, w.before args s = true := fun w hw => hts w (List.mem_filter.mp hw).1
  obtain ⟨c0, i0, h0⟩ := u_known (C := kN 0) (T := kT 0) (N := kM 0) (n := kM 0) hgt (kI 0 (by decide)) (hts (.instantiable (kN 0) (kM 0)) (List.mem_of_getElem? (i := 281) (by decide +kernel)))
  obtain ⟨c1, i1, h1⟩ := u_known (C := kN 1) (T := kT 1) (N := kM 1) (n := kM 1) hgt (kI 1 (by decide)) (hts (.instantiable (kN 1) (kM 1)) (List.mem_of_getElem? (i := 302) (by decide +kernel)))
  obtain ⟨c2, i2, h2⟩ := u_known (C := kN 2) (T := kT 2) (N := kM 2) (n := kM 2) hgt (kI 2 (by decide)) (hts (.instantiable (kN 2) (kM 2)) (List.mem_of_getElem? (i := 84) (by decide +kernel)))
  obtain ⟨c3, i3, h3⟩ := u_known (C := kN 3) (T := kT 3) (N := kM 3) (n := kM 3) hgt (kI 3 (by decide)) (hts (.instantiable (kN 3) (kM 3)) (List.mem_of_getElem? (i := 115) (by decide +kernel)))
  obtain ⟨c4, i4, h4⟩ := u_known (C := kN 4) (T := kT 4) (N := kM 4) (n := kM 4) hgt (kI 4 (by decide)) (hts (.instantiable (kN 4) (kM 4)) (List.mem_of_getElem? (i := 121) (by decide +kernel)))
  obtain ⟨c5, i5, h5⟩ := u_known (C := kN 5) (T := kT 5) (N := kM 5) (n := kM 5) hgt (kI 5 (by decide)) (hts (.instantiable (kN 5) (kM 5)) (List.mem_of_getElem? (i := 248) (by decide +kernel)))
  obtain ⟨c6, i6, h6⟩ := u_known (C := kN 6) (T := kT 6) (N := kM 6) (n := kM 6) hgt (kI 6 (by decide)) (hts (.instantiable (kN 6) (kM 6)) (List.mem_of_getElem? (i := 76) (by decide +kernel)))
  obtain ⟨c7, i7, h7⟩ := u_known (C := kN 7) (T := kT 7) (N := kM 7) (n := kM 7) hgt (kI 7 (by decide)) (hts (.instantiable (kN 7) (kM 7)) (List.mem_of_getElem? (i := 972) (by decide +kernel)))
  refine ⟨fun k => if k = 0 then c0 else if k = 1 then c1 else if k = 2 then c2 else if k = 3 then c3 else if k = 4 then c4 else if k = 5 then c5 else if k = 6 then c6 else c7, fun k => if k = 0 then i0 else if k = 1 then i1 else if k = 2 then i2 else if k = 3 then i3 else if k = 4 then i4 else if k = 5 then i5 else if k = 6 then i6 else i7, ?_⟩
  intro k q hq
  match k, hq with
  | 0, hq => cases hq; exact h0
  | 1, hq => cases hq; exact h1
  | 2, hq => cases hq; exact h2
  | 3, hq => cases hq; exact h3
  | 4, hq => cases hq; exact h4
  | 5, hq => cases hq; exact h5
  | 6, hq => cases hq; exact h6
  | 7, hq => cases hq; exact h7
  | k + 8, hq => simp [kC] at hq
theorem pm_arr {args : Array Value} {s : State} {ty : FieldType} (hty : ∀ C, ty ≠ .object C) (h : (Cond.arrayClass ty).before args s = true) : ∃ cA : ClassId, ArrOfT s cA ty ∧ va_RA s cA ty := by
  obtain ⟨cA, kA, comp, h1, h2, h3⟩ := Cond.arrayClass_spec h
  refine ⟨cA, fun n z => ⟨fun k h => (by cases h), kA, h2, comp, h3⟩, ?_⟩
  cases ty with
  | object C => exact absurd rfl (hty C)
  | _ => exact h1
theorem pm_over {s : State} {C : String} (h : va_AO C s) : ∃ cA : ClassId, ArrOfT s cA (.object C) ∧ va_RA s cA (.object C) := by
  obtain ⟨comp, c, k, h1, h2, h3, h4, h5⟩ := Cond.arrayOver_spec h
  exact ⟨c, fun N z => ⟨(fun k h => by cases h), k, h3, comp, h4⟩, k, comp, h3, h4, h1, h5⟩
theorem pm_allN {args : Array Value} {s : State} (hts : ∀ w ∈ lw_tbl, w.before args s = true) : pm_N s := by
  refine ⟨va_AO.of (hts (.arrayOver (.object "MoodTown$Town")) (List.mem_of_getElem? (i := 299) (by decide +kernel))), va_AO.of (hts (.arrayOver (.object "MoodTown$Sheet")) (List.mem_of_getElem? (i := 301) (by decide +kernel))), ?_⟩
  intro q hq
  have h : pm_nest.all (fun q => decide (Cond.methodLinkNest q.1 q.2.1 q.2.2 "MoodTown" ∈ lw_tbl)) = true := by decide +kernel
  exact va_Nw.of rfl (hts _ (of_decide_eq_true (List.all_eq_true.mp h q hq)))
theorem pm_allK {args : Array Value} {s : State} (hts : ∀ w ∈ lw_tbl, w.before args s = true) : ∃ (dC : Nat → ClassId) (dI : Nat → Nat → Nat) (aC : Nat → ClassId), va_K (dC, dI) kC (pm_ty aC) s := by
  obtain ⟨dC, dI, hk⟩ := pm_known hts
  have hN := pm_allN hts
  obtain ⟨a0, h0⟩ := pm_arr (ty := .int) (fun C h => by cases h) (hts _ (List.mem_of_getElem? (i := 215) (by decide +kernel)))
  obtain ⟨a1, h1⟩ := pm_arr (ty := .byte) (fun C h => by cases h) (hts _ (List.mem_of_getElem? (i := 113) (by decide +kernel)))
  obtain ⟨a2, h2⟩ := pm_arr (ty := .boolean) (fun C h => by cases h) (hts _ (List.mem_of_getElem? (i := 1091) (by decide +kernel)))
  obtain ⟨a3, h3⟩ := pm_arr (ty := .long) (fun C h => by cases h) (hts _ (List.mem_of_getElem? (i := 298) (by decide +kernel)))
  obtain ⟨a4, h4⟩ := pm_over hN.1
  obtain ⟨a5, h5⟩ := pm_over hN.2.1
  refine ⟨dC, dI, fun k => if k = 0 then a0 else if k = 1 then a1 else if k = 2 then a2 else if k = 3 then a3 else if k = 4 then a4 else a5, hk, ?_⟩
  intro k q hq
  match k, hq with
  | 0, hq => cases hq; exact h0
  | 1, hq => cases hq; exact h1
  | 2, hq => cases hq; exact h2
  | 3, hq => cases hq; exact h3
  | 4, hq => cases hq; exact h4
  | 5, hq => cases hq; exact h5
  | k + 6, hq => simp [pm_ty] at hq
theorem pm_scr (xs : Nat → Int32) (L j : Nat) (hj : j < L) : ((List.range L).map xs).getD j 0 = xs j := by
  rw [List.getD_eq_getElem?_getD, List.getElem?_map, List.getElem?_range hj]
  rfl
/-- the law's walk out of a pure run of it that answers 1 -/
theorem pm_law {p : Program} {e : Env} {s : State} {m : MethodId} {below : List Frame} {meth : Method} {c : Code} (l : Launch) {b L : Nat} {xs : Nat → Int32} (C0 : lw_At p s m meth c b L xs) {N d n : Nat} {h1 : pm_H} (hk : pm_run ((List.range L).map xs) pm_m (pm_big ((List.range L).map xs) pm_m N d) m_0 n 0 [(0, .ref 0)] [] [] 0 0 = some (some (.int 1), h1)) : W p l e room_1 s m #[Value.ref b] below meth c s.heap [] 0 0 (lw_Z below #[Value.ref b] s) (entryFrame m ([Value.ref b] : List Value).toArray 4) := by
  obtain ⟨hx, hb, hr, hml, hown, hts, hX, hbl, hlocks, hgv⟩ := id C0
  obtain ⟨dC, dI, aC, hK⟩ := pm_allK hts
  have hX1 : va_X b ((List.range L).map xs).length (fun j => ((List.range L).map xs).getD j 0) s s.heap := by
    obtain ⟨scr, g1, g2, g3, g4, g5⟩ := hX
    refine ⟨scr, g1, g2, g3, by rw [List.length_map, List.length_range]; exact g4, fun j hj => ?_⟩
    rw [List.length_map, List.length_range] at hj
    rw [g5 j hj]
    show _ = some (Value.int (((List.range L).map xs).getD j 0))
    rw [pm_scr xs L j hj]
  have X : pm_X p room_1 s m #[Value.ref b] meth c dC dI aC (fun _ => b) s.heap.size ((List.range L).map xs) m_0 := ⟨hx, hb, hml, hown, fun w hw => hts w (List.mem_filter.mp hw).1, fun h => absurd h (by decide +kernel), hK, hX1, hbl, Nat.le_refl _, pm_allN hts, rfl⟩
  have hret : ∀ i pc lv st h c1 sl, pm_rok m_0 i st h (some (.int 1), h1) → decode (pm_b m_0) pc = .ok (i, 1) → pm_W p l e room_1 s m #[Value.ref b] below meth c (lw_Z below #[Value.ref b] s) dC dI aC (fun _ => b) s.heap.size m_0 pc lv st h c1 sl := by
    intro i pc lv st h c1 sl hro hd H locs ls hc hs hl hP hz hS
    refine va_forget hS.2.2 ?_
    refine W.widen hc hs ?_
    rcases hro with ⟨rfl, hro⟩ | ⟨rfl, hro⟩ | ⟨rfl, hro⟩ | ⟨rfl, hro⟩
    · unfold pm_ret at hro
      split at hro
      · split at hro
        · cases hro
          exact lw_ret hx hb hr hlocks hd
        · cases hro
      · cases hro
    · unfold pm_retl at hro
      split at hro <;> cases hro
    · unfold pm_reta at hro
      split at hro <;> cases hro
    · unfold pm_retv at hro
      split at hro <;> cases hro
  have hl := lv_entry ([.ref b]) (n := 4) (Nat.le_of_ble_eq_true rfl)
  rw [lg_entry_eq]
  exact pm_run_ok X (ck_ok ck_0.2.2) (fun M2 m2 as h r ht hb => pm_big_ok l dC dI aC (fun _ => b) s.heap.size ((List.range L).map xs) pm_tab N d M2 m2 as h r ht hb) hret n _ _ _ _ _ _ hk s.heap [] _ (Nat.zero_le _) (Nat.zero_le _) hl (fun i q h => by simp at h) rfl va_S.rf
end
section
/-! THE PURE MACHINE OVER INTERVALS: an int is (lo, hi). A run of it over boxes is a run of the pure machine at every point of them. -/
abbrev am_I : Type := Int × Int
abbrev am_V : Type := am_I ⊕ (am_I ⊕ Option Nat)
abbrev am_C : Type := (Nat × List am_I) ⊕ ((Nat × List am_I) ⊕ ((Nat × List (Option Nat)) ⊕ (Nat × List am_V)))
/-- how many cells, and the cells by nines -/
abbrev am_H : Type := Nat × List (List am_C)
abbrev am_L : Type := List (Nat × am_V)
abbrev am_R : Type := Option (Option am_V × am_H)
abbrev am_K : Type := Nat → am_L → List am_V → am_H → Nat → Nat → am_R
def am_top : am_I := (-2147483648, 2147483647)
def am_topl : am_I := (-9223372036854775808, 9223372036854775807)
def am_cat (v : am_V) : Nat := match v with
  | .inr (.inl _) => 2
  | _ => 1
def am_b (f : Int32 → Int32 → Int32) (a b : am_I) : am_I := if a.1 = a.2 ∧ b.1 = b.2 then ((f (Int32.ofInt a.1) (Int32.ofInt b.1)).toInt, (f (Int32.ofInt a.1) (Int32.ofInt b.1)).toInt) else am_top
def am_bl (f : Int64 → Int64 → Int64) (a b : am_I) : am_I := if a.1 = a.2 ∧ b.1 = b.2 then ((f (Int64.ofInt a.1) (Int64.ofInt b.1)).toInt, (f (Int64.ofInt a.1) (Int64.ofInt b.1)).toInt) else am_topl
def am_u (f : Int32 → Int32) (a : am_I) : am_I := if a.1 = a.2 then ((f (Int32.ofInt a.1)).toInt, (f (Int32.ofInt a.1)).toInt) else am_top
def am_nrm (lo hi : Int) : am_I := if -2147483648 ≤ lo ∧ hi ≤ 2147483647 then (lo, hi) else if hi < -2147483648 ∧ -6442450944 ≤ lo then (lo + 4294967296, hi + 4294967296) else if 2147483647 < lo ∧ hi ≤ 6442450943 then (lo - 4294967296, hi - 4294967296) else am_top
def am_add (a b : am_I) : am_I := am_nrm (a.1 + b.1) (a.2 + b.2)
def am_sub (a b : am_I) : am_I := am_nrm (a.1 - b.2) (a.2 - b.1)
def am_and (a b : am_I) : am_I := if a.1 = a.2 ∧ b.1 = b.2 then am_b (fun x y => x &&& y) a b else if b = (63, 63) then (0, 63) else am_top
def am_ix (a : am_I) : Option Nat := if a.1 = a.2 ∧ 0 ≤ a.1 then some a.1.toNat else none
def am_g (h : List (List am_C)) (i : Nat) : Option am_C := match h[i / 9]? with
  | some ch => ch[i % 9]?
  | none => none
def am_cell (h : am_H) (a : Nat) : Option am_C := if a < 8 then none else am_g h.2 (a - 8)
def am_st (h : am_H) (i : Nat) (C : am_C) : am_H := match h.2[i / 9]? with
  | some ch => (h.1, h.2.set (i / 9) (ch.set (i % 9) C))
  | none => h
def am_ps (h : am_H) (C : am_C) : Option am_H := match h.2[h.1 / 9]? with
  | some ch => if ch.length = h.1 % 9 then some (h.1 + 1, h.2.set (h.1 / 9) (ch ++ [C])) else none
  | none => if h.2.length = h.1 / 9 ∧ h.1 % 9 = 0 then some (h.1 + 1, h.2 ++ [[C]]) else none
def am_s1 (lv : am_L) (i : Nat) (v : am_V) : am_L := (i, v) :: lv.filter (fun q => !(q.1 == i) && !(q.1 + 1 == i && am_cat q.2 == 2))
def am_s2 (lv : am_L) (i : Nat) (v : am_V) : am_L := (i, v) :: lv.filter (fun q => !(q.1 == i) && (!(q.1 == i + 1) && !(q.1 + 1 == i && am_cat q.2 == 2)))
def am_fit : FieldType → am_V → Bool
  | .int, .inl _ => true
  | .long, .inr (.inl _) => true
  | .boolean, .inl a => decide (a.1 = a.2) && (decide (a.1 = 0) || decide (a.1 = 1))
  | .object _, .inr (.inr (some _)) => true
  | .array _, .inr (.inr (some _)) => true
  | _, _ => false
def am_dec (cd : ClassFile.Cond) (a b : am_I) : Option Bool := match cd with
  | .eq => if a.2 < b.1 ∨ b.2 < a.1 then some false else if a.1 = a.2 ∧ b.1 = b.2 ∧ a.1 = b.1 then some true else none
  | .ne => if a.2 < b.1 ∨ b.2 < a.1 then some true else if a.1 = a.2 ∧ b.1 = b.2 ∧ a.1 = b.1 then some false else none
  | .lt => if a.2 < b.1 then some true else if b.2 ≤ a.1 then some false else none
  | .ge => if b.2 ≤ a.1 then some true else if a.2 < b.1 then some false else none
  | .gt => if b.2 < a.1 then some true else if a.2 ≤ b.1 then some false else none
  | .le => if a.2 ≤ b.1 then some true else if b.2 < a.1 then some false else none
def am_z (ci : Nat) : List am_V := (kZ ci).map (fun v => match v with
  | .int _ => .inl (0, 0)
  | _ => .inr (.inr none))
/-! boxes alike -/
def aeI (a b : am_I) : Bool := decide (a.1 = b.1) && decide (a.2 = b.2)
theorem aeI_ok {a b : am_I} (h : aeI a b = true) : a = b := by
  unfold aeI at h
  rw [Bool.and_eq_true] at h
  exact Prod.ext (of_decide_eq_true h.1) (of_decide_eq_true h.2)
def aeV : am_V → am_V → Bool
  | .inl a, .inl b => aeI a b
  | .inr (.inl a), .inr (.inl b) => aeI a b
  | .inr (.inr a), .inr (.inr b) => decide (a = b)
  | _, _ => false
theorem aeV_ok {a b : am_V} (h : aeV a b = true) : a = b := by
  unfold aeV at h
  split at h
  · rw [aeI_ok h]
  · rw [aeI_ok h]
  · rw [of_decide_eq_true h]
  · cases h
def aeL {α : Type} (e : α → α → Bool) : List α → List α → Bool
  | [], [] => true
  | a :: l, b :: m => e a b && aeL e l m
  | _, _ => false
theorem aeL_ok {α : Type} {e : α → α → Bool} (he : ∀ a b, e a b = true → a = b) : ∀ {l m : List α}, aeL e l m = true → l = m
  | [], [], _ => rfl
  | a :: l, b :: m, h => by
    have h1 : e a b = true ∧ aeL e l m = true := by rw [← Bool.and_eq_true]; exact h
    rw [he a b h1.1, aeL_ok he h1.2]
  | [], _ :: _, h => by cases h
  | _ :: _, [], h => by cases h
def aeC : am_C → am_C → Bool
  | .inl (t, l), .inl (u, m) => decide (t = u) && aeL aeI l m
  | .inr (.inl (t, l)), .inr (.inl (u, m)) => decide (t = u) && aeL aeI l m
  | .inr (.inr (.inl (t, l))), .inr (.inr (.inl (u, m))) => decide (t = u) && decide (l = m)
  | .inr (.inr (.inr (t, l))), .inr (.inr (.inr (u, m))) => decide (t = u) && aeL aeV l m
  | _, _ => false
theorem aeC_ok {a b : am_C} (h : aeC a b = true) : a = b := by
  unfold aeC at h
  split at h
  · rw [Bool.and_eq_true] at h
    rw [of_decide_eq_true h.1, aeL_ok (fun _ _ => aeI_ok) h.2]
  · rw [Bool.and_eq_true] at h
    rw [of_decide_eq_true h.1, aeL_ok (fun _ _ => aeI_ok) h.2]
  · rw [Bool.and_eq_true] at h
    rw [of_decide_eq_true h.1, of_decide_eq_true h.2]
  · rw [Bool.and_eq_true] at h
    rw [of_decide_eq_true h.1, aeL_ok (fun _ _ => aeV_ok) h.2]
  · cases h
def aeQ (a b : Nat × am_V) : Bool := decide (a.1 = b.1) && aeV a.2 b.2
theorem aeQ_ok {a b : Nat × am_V} (h : aeQ a b = true) : a = b := by
  unfold aeQ at h
  rw [Bool.and_eq_true] at h
  exact Prod.ext (of_decide_eq_true h.1) (aeV_ok h.2)
def aeO : Option am_V → Option am_V → Bool
  | none, none => true
  | some a, some b => aeV a b
  | _, _ => false
theorem aeO_ok {a b : Option am_V} (h : aeO a b = true) : a = b := by
  unfold aeO at h
  split at h
  · rfl
  · rw [aeV_ok h]
  · cases h
def aeR (a b : Option am_V × am_H) : Bool := aeO a.1 b.1 && (decide (a.2.1 = b.2.1) && aeL (aeL aeC) a.2.2 b.2.2)
theorem aeR_ok {a b : Option am_V × am_H} (h : aeR a b = true) : a = b := by
  unfold aeR at h
  rw [Bool.and_eq_true, Bool.and_eq_true] at h
  exact Prod.ext (aeO_ok h.1) (Prod.ext (of_decide_eq_true h.2.1) (aeL_ok (fun _ _ => aeL_ok (fun _ _ => aeC_ok)) h.2.2))
section AStep
variable (k : am_K)
def aq_bi (f : am_I → am_I → am_I) (pc : Nat) (lv : am_L) (st : List am_V) (h : am_H) (c sl : Nat) : am_R := match st with
  | .inl y :: .inl x :: r => k (pc + 1) lv (.inl (f x y) :: r) h c sl
  | _ => none
def aq_bz (f : Int32 → Int32 → Int32) (pc : Nat) (lv : am_L) (st : List am_V) (h : am_H) (c sl : Nat) : am_R := match st with
  | .inl y :: .inl x :: r => if y.2 < 0 ∨ 0 < y.1 then k (pc + 1) lv (.inl (am_b f x y) :: r) h c sl else none
  | _ => none
def aq_bl (f : Int64 → Int64 → Int64) (pc : Nat) (lv : am_L) (st : List am_V) (h : am_H) (c sl : Nat) : am_R := match st with
  | .inr (.inl y) :: .inr (.inl x) :: r => k (pc + 1) lv (.inr (.inl (am_bl f x y)) :: r) h c sl
  | _ => none
def aq_blz (f : Int64 → Int64 → Int64) (pc : Nat) (lv : am_L) (st : List am_V) (h : am_H) (c sl : Nat) : am_R := match st with
  | .inr (.inl y) :: .inr (.inl x) :: r => if y.2 < 0 ∨ 0 < y.1 then k (pc + 1) lv (.inr (.inl (am_bl f x y)) :: r) h c sl else none
  | _ => none
def aq_u (f : Int32 → Int32) (pc : Nat) (lv : am_L) (st : List am_V) (h : am_H) (c sl : Nat) : am_R := match st with
  | .inl x :: r => k (pc + 1) lv (.inl (am_u f x) :: r) h c sl
  | _ => none
def aq_ldi (i npc : Nat) (lv : am_L) (st : List am_V) (h : am_H) (c sl : Nat) : am_R := match lv.lookup i with
  | some (.inl x) => k npc lv (.inl x :: st) h c sl
  | _ => none
def aq_ldl (i npc : Nat) (lv : am_L) (st : List am_V) (h : am_H) (c sl : Nat) : am_R := match lv.lookup i with
  | some (.inr (.inl x)) => k npc lv (.inr (.inl x) :: st) h c sl
  | _ => none
def aq_lda (i npc : Nat) (lv : am_L) (st : List am_V) (h : am_H) (c sl : Nat) : am_R := match lv.lookup i with
  | some (.inr (.inr (some x))) => k npc lv (.inr (.inr (some x)) :: st) h c sl
  | _ => none
def aq_sti (nL i npc : Nat) (lv : am_L) (st : List am_V) (h : am_H) (c sl : Nat) : am_R := match st with
  | .inl x :: r => if i < nL then k npc (am_s1 lv i (.inl x)) r h c sl else none
  | _ => none
def aq_sta (nL i npc : Nat) (lv : am_L) (st : List am_V) (h : am_H) (c sl : Nat) : am_R := match st with
  | .inr (.inr (some x)) :: r => if i < nL then k npc (am_s1 lv i (.inr (.inr (some x)))) r h c sl else none
  | _ => none
def aq_stl (nL i npc : Nat) (lv : am_L) (st : List am_V) (h : am_H) (c sl : Nat) : am_R := match st with
  | .inr (.inl x) :: r => if i + 1 < nL then k npc (am_s2 lv i (.inr (.inl x))) r h c sl else none
  | _ => none
def aq_iinc (nL i : Nat) (n : Int) (pc : Nat) (lv : am_L) (st : List am_V) (h : am_H) (c sl : Nat) : am_R := match lv.lookup i with
  | some (.inl x) => if i < nL then k (pc + 3) (am_s1 lv i (.inl (am_b (fun a b => a + b) x ((Int32.ofInt n).toInt, (Int32.ofInt n).toInt)))) st h c sl else none
  | _ => none
def aq_ic (cd : ClassFile.Cond) (tgt pc : Nat) (lv : am_L) (st : List am_V) (h : am_H) (c sl : Nat) : am_R := match st with
  | .inl y :: .inl x :: r => (match am_dec cd x y with
    | some true => k tgt lv r h c sl
    | some false => k (pc + 3) lv r h c sl
    | none => (match k tgt lv r h c sl, k (pc + 3) lv r h c sl with
      | some R1, some R2 => (match aeR R1 R2 with
        | true => some R1
        | false => none)
      | _, _ => none))
  | _ => none
def aq_if (cd : ClassFile.Cond) (tgt pc : Nat) (lv : am_L) (st : List am_V) (h : am_H) (c sl : Nat) : am_R := aq_ic k cd tgt pc lv (.inl (0, 0) :: st) h c sl
def aq_jump (t : Int) (lv : am_L) (st : List am_V) (h : am_H) (c sl : Nat) : am_R := if 0 ≤ t then k t.toNat lv st h c sl else none
def aq_tsw (d lo hi : Int) (offs : Array Int) (pc : Nat) (lv : am_L) (st : List am_V) (h : am_H) (c sl : Nat) : am_R := match st with
  | .inl x :: r => if x.2 < lo then aq_jump k ((pc : Int) + d) lv r h c sl
    else if hi < x.1 then aq_jump k ((pc : Int) + d) lv r h c sl
    else if x.1 = x.2 then (match offs[(x.1 - lo).toNat]? with
      | some off => aq_jump k ((pc : Int) + off) lv r h c sl
      | none => none) else none
  | _ => none
def aq_getf (ci f pc : Nat) (lv : am_L) (st : List am_V) (h : am_H) (c sl : Nat) : am_R := match st with
  | .inr (.inr (some a)) :: r => match am_cell h a with
    | some (.inr (.inr (.inr (cj, fs)))) => if cj = ci then (match fs[f]? with
      | some v => k (pc + 3) lv (v :: r) h c sl
      | none => none) else none
    | _ => none
  | _ => none
def aq_putf (ci f pc : Nat) (lv : am_L) (st : List am_V) (h : am_H) (c sl : Nat) : am_R := match st with
  | v :: .inr (.inr (some a)) :: r => match am_cell h a with
    | some (.inr (.inr (.inr (cj, fs)))) => if cj = ci then (if f < fs.length then (match am_fit (kY ci f) v with
      | true => k (pc + 3) lv r (am_st h (a - 8) (.inr (.inr (.inr (ci, fs.set f v))))) c sl
      | false => none) else none) else none
    | _ => none
  | _ => none
def aq_iald (xs : List am_I) (pc : Nat) (lv : am_L) (st : List am_V) (h : am_H) (c sl : Nat) : am_R := match st with
  | .inl i :: .inr (.inr (some a)) :: r => (match am_ix i with
    | some n => if a = 0 then (match xs[n]? with
        | some x => k (pc + 1) lv (.inl x :: r) h c sl
        | none => none)
      else match am_cell h a with
        | some (.inl (t, l)) => if t = 0 then (match l[n]? with
          | some x => k (pc + 1) lv (.inl x :: r) h c sl
          | none => none) else none
        | _ => none
    | none => none)
  | _ => none
def aq_bald (pc : Nat) (lv : am_L) (st : List am_V) (h : am_H) (c sl : Nat) : am_R := match st with
  | .inl i :: .inr (.inr (some a)) :: r => (match am_ix i with
    | some n => (match am_cell h a with
        | some (.inl (t, l)) => if t = 1 ∨ t = 2 then (match l[n]? with
          | some x => k (pc + 1) lv (.inl x :: r) h c sl
          | none => none) else none
        | _ => none)
    | none => none)
  | _ => none
def aq_lald (pc : Nat) (lv : am_L) (st : List am_V) (h : am_H) (c sl : Nat) : am_R := match st with
  | .inl i :: .inr (.inr (some a)) :: r => (match am_ix i with
    | some n => (match am_cell h a with
        | some (.inr (.inl (t, l))) => if t = 3 then (match l[n]? with
          | some x => k (pc + 1) lv (.inr (.inl x) :: r) h c sl
          | none => none) else none
        | _ => none)
    | none => none)
  | _ => none
def aq_aald (pc : Nat) (lv : am_L) (st : List am_V) (h : am_H) (c sl : Nat) : am_R := match st with
  | .inl i :: .inr (.inr (some a)) :: r => (match am_ix i with
    | some n => (match am_cell h a with
        | some (.inr (.inr (.inl (t, l)))) => if t = 4 ∨ t = 5 then (match l[n]? with
          | some (some x) => k (pc + 1) lv (.inr (.inr (some x)) :: r) h c sl
          | _ => none) else none
        | _ => none)
    | none => none)
  | _ => none
def aq_iast (pc : Nat) (lv : am_L) (st : List am_V) (h : am_H) (c sl : Nat) : am_R := match st with
  | .inl x :: .inl i :: .inr (.inr (some a)) :: r => (match am_ix i with
    | some n => (match am_cell h a with
        | some (.inl (t, l)) => if t = 0 then (if n < l.length then k (pc + 1) lv r (am_st h (a - 8) (.inl (0, l.set n x))) c sl else none) else none
        | _ => none)
    | none => none)
  | _ => none
def aq_bast (pc : Nat) (lv : am_L) (st : List am_V) (h : am_H) (c sl : Nat) : am_R := match st with
  | .inl x :: .inl i :: .inr (.inr (some a)) :: r => (match am_ix i with
    | some n => (match am_cell h a with
        | some (.inl (t, l)) => if t = 1 then (if n < l.length then k (pc + 1) lv r (am_st h (a - 8) (.inl (1, l.set n (am_u (fun x => x.toInt8.toInt32) x)))) c sl else none)
          else if t = 2 then (if n < l.length then k (pc + 1) lv r (am_st h (a - 8) (.inl (2, l.set n (am_u (fun x => x &&& 1) x)))) c sl else none) else none
        | _ => none)
    | none => none)
  | _ => none
def aq_last (pc : Nat) (lv : am_L) (st : List am_V) (h : am_H) (c sl : Nat) : am_R := match st with
  | .inr (.inl x) :: .inl i :: .inr (.inr (some a)) :: r => (match am_ix i with
    | some n => (match am_cell h a with
        | some (.inr (.inl (t, l))) => if t = 3 then (if n < l.length then k (pc + 1) lv r (am_st h (a - 8) (.inr (.inl (3, l.set n x)))) c sl else none) else none
        | _ => none)
    | none => none)
  | _ => none
def aq_aast (pc : Nat) (lv : am_L) (st : List am_V) (h : am_H) (c sl : Nat) : am_R := match st with
  | .inr (.inr (some v)) :: .inl i :: .inr (.inr (some a)) :: r => (match am_ix i with
    | some n => (match am_cell h a with
      | some (.inr (.inr (.inl (t, l)))) => (match am_cell h v with
        | some (.inr (.inr (.inr (cj, _)))) => if t = 4 ∨ t = 5 then (if cj = pm_comp t then (if n < l.length then k (pc + 1) lv r (am_st h (a - 8) (.inr (.inr (.inl (t, l.set n (some v)))))) c sl else none) else none) else none
        | _ => none)
      | _ => none)
    | none => none)
  | _ => none
def aq_alen (xs : List am_I) (pc : Nat) (lv : am_L) (st : List am_V) (h : am_H) (c sl : Nat) : am_R := match st with
  | .inr (.inr (some a)) :: r => if a = 0 then k (pc + 1) lv (.inl ((Int32.ofNat xs.length).toInt, (Int32.ofNat xs.length).toInt) :: r) h c sl else match am_cell h a with
      | some (.inl (t, l)) => if t < 3 then k (pc + 1) lv (.inl ((Int32.ofNat l.length).toInt, (Int32.ofNat l.length).toInt) :: r) h c sl else none
      | _ => none
  | _ => none
def aq_new (mm : pm_M) (ci pc : Nat) (lv : am_L) (st : List am_V) (h : am_H) (c sl : Nat) : am_R :=
  if c + 1 ≤ pm_c mm then (if sl + kM ci ≤ pm_s mm then (match am_ps h (.inr (.inr (.inr (ci, am_z ci)))) with
    | some h' => k (pc + 3) lv (.inr (.inr (some (8 + h.1))) :: st) h' (c + 1) (sl + kM ci)
    | none => none) else none) else none
def aq_newa (mm : pm_M) (at_ : ArrayType) (pc : Nat) (lv : am_L) (st : List am_V) (h : am_H) (c sl : Nat) : am_R := match st with
  | .inl n :: r => (match am_ix n with
    | some n => if n ≤ 1000000 then (if c + 1 ≤ pm_c mm then (if sl + n ≤ pm_s mm then (match at_ with
      | .int => (match am_ps h (.inl (0, List.replicate n (0, 0))) with
        | some h' => k (pc + 2) lv (.inr (.inr (some (8 + h.1))) :: r) h' (c + 1) (sl + n)
        | none => none)
      | .byte => (match am_ps h (.inl (1, List.replicate n (0, 0))) with
        | some h' => k (pc + 2) lv (.inr (.inr (some (8 + h.1))) :: r) h' (c + 1) (sl + n)
        | none => none)
      | .boolean => (match am_ps h (.inl (2, List.replicate n (0, 0))) with
        | some h' => k (pc + 2) lv (.inr (.inr (some (8 + h.1))) :: r) h' (c + 1) (sl + n)
        | none => none)
      | .long => (match am_ps h (.inr (.inl (3, List.replicate n (0, 0)))) with
        | some h' => k (pc + 2) lv (.inr (.inr (some (8 + h.1))) :: r) h' (c + 1) (sl + n)
        | none => none)
      | _ => none) else none) else none) else none
    | none => none)
  | _ => none
def aq_anew (mm : pm_M) (t pc : Nat) (lv : am_L) (st : List am_V) (h : am_H) (c sl : Nat) : am_R := match st with
  | .inl n :: r => (match am_ix n with
    | some n => if n ≤ 1000000 then (if c + 1 ≤ pm_c mm then (if sl + n ≤ pm_s mm then
      (match am_ps h (.inr (.inr (.inl (t, List.replicate n none)))) with
        | some h' => k (pc + 3) lv (.inr (.inr (some (8 + h.1))) :: r) h' (c + 1) (sl + n)
        | none => none) else none) else none) else none
    | none => none)
  | _ => none
def aq_copy (pc : Nat) (lv : am_L) (st : List am_V) (h : am_H) (c sl : Nat) : am_R := match st with
  | [.inl n, .inl dp, .inr (.inr (some a)), .inl sp, .inr (.inr (some b))] => (match am_ix n, am_ix dp, am_ix sp with
    | some n, some dp, some sp => (match am_cell h a, am_cell h b with
      | some (.inl (t, g)), some (.inl (u, f)) => if t = 0 ∧ u = 0 then (if sp + n ≤ f.length then (if dp + n ≤ g.length then
          k (pc + 3) lv [] (am_st h (a - 8) (.inl (0, pm_cpy f g sp dp n))) c sl else none) else none) else none
      | _, _ => none)
    | _, _, _ => none)
  | _ => none
def aq_call (big : Nat → List am_V → am_H → am_R) (mm m2 : pm_M) (M2 : Nat) (pc : Nat) (lv : am_L) (as rest : List am_V) (h : am_H) (c sl : Nat) : am_R :=
  if (rest.map am_cat).sum ≤ 8 then (if c + pm_c m2 ≤ pm_c mm then (if sl + pm_s m2 ≤ pm_s mm then (match big M2 as h with
    | some (r, h') => k (pc + 3) lv (r.toList ++ rest) h' (c + pm_c m2) (sl + pm_s m2)
    | none => none) else none) else none) else none
def aq_inv (tab : Nat → Option pm_M) (big : Nat → List am_V → am_H → am_R) (mm : pm_M) (M2 : Nat) (pc : Nat) (lv : am_L) (st : List am_V) (h : am_H) (c sl : Nat) : am_R := match tab M2 with
  | none => none
  | some m2 => if pm_n m2 ≤ st.length then (match (st.take (pm_n m2)).reverse with
      | .inr (.inr (some a)) :: as => (match am_cell h a with
        | some (.inr (.inr (.inr (cj, _)))) => if cj = pm_o m2 then aq_call k big mm m2 M2 pc lv (.inr (.inr (some a)) :: as) (st.drop (pm_n m2)) h c sl else none
        | _ => none)
      | _ => none) else none
def aq_ins (tab : Nat → Option pm_M) (big : Nat → List am_V → am_H → am_R) (mm : pm_M) (M2 : Nat) (pc : Nat) (lv : am_L) (st : List am_V) (h : am_H) (c sl : Nat) : am_R := match tab M2 with
  | none => none
  | some m2 => if pm_n m2 ≤ st.length then aq_call k big mm m2 M2 pc lv (st.take (pm_n m2)).reverse (st.drop (pm_n m2)) h c sl else none
def aq_obj (pc : Nat) (lv : am_L) (st : List am_V) (h : am_H) (c sl : Nat) : am_R := match st with
  | [.inr (.inr (some _))] => k (pc + 3) lv [] h c sl
  | _ => none
def aq_dup (pc : Nat) (lv : am_L) (st : List am_V) (h : am_H) (c sl : Nat) : am_R := match st with
  | v :: r => if am_cat v = 1 then k (pc + 1) lv (v :: v :: r) h c sl else none
  | _ => none
def aq_dup2 (pc : Nat) (lv : am_L) (st : List am_V) (h : am_H) (c sl : Nat) : am_R := match st with
  | v :: w :: r => if am_cat v = 1 then (if am_cat w = 1 then k (pc + 1) lv (v :: w :: v :: w :: r) h c sl else none) else none
  | _ => none
def aq_pop (pc : Nat) (lv : am_L) (st : List am_V) (h : am_H) (c sl : Nat) : am_R := match st with
  | v :: r => if am_cat v = 1 then k (pc + 1) lv r h c sl else none
  | _ => none
def am_cmp (a b : am_I) : am_I := (if b.2 < a.1 then 1 else if b.2 ≤ a.1 then 0 else -1, if a.2 < b.1 then -1 else if a.2 ≤ b.1 then 0 else 1)
def aq_lcmp (pc : Nat) (lv : am_L) (st : List am_V) (h : am_H) (c sl : Nat) : am_R := match st with
  | .inr (.inl y) :: .inr (.inl x) :: r => k (pc + 1) lv (.inl (am_cmp x y) :: r) h c sl
  | _ => none
def aq_i2l (pc : Nat) (lv : am_L) (st : List am_V) (h : am_H) (c sl : Nat) : am_R := match st with
  | .inl x :: r => k (pc + 1) lv (.inr (.inl x) :: r) h c sl
  | _ => none
end AStep
def aq_ret (mm : pm_M) (st : List am_V) (h : am_H) : am_R := match st, pm_rt mm with
  | [.inl v], some ty => (match am_fit ty (.inl v) with
    | true => some (some (.inl v), h)
    | false => none)
  | _, _ => none
def aq_retl (mm : pm_M) (st : List am_V) (h : am_H) : am_R := match st, pm_rt mm with
  | [.inr (.inl v)], some .long => some (some (.inr (.inl v)), h)
  | _, _ => none
def aq_reta (mm : pm_M) (st : List am_V) (h : am_H) : am_R := match st, pm_rt mm with
  | [.inr (.inr (some v))], some (.object _) => some (some (.inr (.inr (some v))), h)
  | _, _ => none
def aq_retv (mm : pm_M) (st : List am_V) (h : am_H) : am_R := match st, pm_rt mm with
  | [], none => some (none, h)
  | _, _ => none
abbrev am_T : Type := List am_I → (Nat → Option pm_M) → (Nat → List am_V → am_H → am_R) → pm_M → am_K → Nat → Nat → Int → am_K
def am_op (i : Instr) : am_T := match i with
  | .iconst n => fun xs tab big mm k a b z pc lv st h c sl => k (pc + 1) lv (.inl ((Int32.ofInt n).toInt, (Int32.ofInt n).toInt) :: st) h c sl
  | .bipush n => fun xs tab big mm k a b z pc lv st h c sl => k (pc + 2) lv (.inl ((Int8.ofInt n).toInt32.toInt, (Int8.ofInt n).toInt32.toInt) :: st) h c sl
  | .sipush n => fun xs tab big mm k a b z pc lv st h c sl => k (pc + 3) lv (.inl ((Int16.ofInt n).toInt32.toInt, (Int16.ofInt n).toInt32.toInt) :: st) h c sl
  | .lconst n => fun xs tab big mm k a b z pc lv st h c sl => k (pc + 1) lv (.inr (.inl ((Int64.ofNat n).toInt, (Int64.ofNat n).toInt)) :: st) h c sl
  | .ldc _ => fun xs tab big mm k a b z pc lv st h c sl => if a = 0 then k (pc + 2) lv (.inl ((Int32.ofInt z).toInt, (Int32.ofInt z).toInt) :: st) h c sl else none
  | .ldc_w _ => fun xs tab big mm k a b z pc lv st h c sl => if a = 0 then k (pc + 3) lv (.inl ((Int32.ofInt z).toInt, (Int32.ofInt z).toInt) :: st) h c sl else none
  | .ldc2_w _ => fun xs tab big mm k a b z pc lv st h c sl => k (pc + 3) lv (.inr (.inl ((Int64.ofInt z).toInt, (Int64.ofInt z).toInt)) :: st) h c sl
  | .iload_n i => fun xs tab big mm k a b z pc lv st h c sl => aq_ldi k i (pc + 1) lv st h c sl
  | .iload i => fun xs tab big mm k a b z pc lv st h c sl => aq_ldi k i (pc + 2) lv st h c sl
  | .lload_n i => fun xs tab big mm k a b z pc lv st h c sl => aq_ldl k i (pc + 1) lv st h c sl
  | .lload i => fun xs tab big mm k a b z pc lv st h c sl => aq_ldl k i (pc + 2) lv st h c sl
  | .aload_n i => fun xs tab big mm k a b z pc lv st h c sl => aq_lda k i (pc + 1) lv st h c sl
  | .aload i => fun xs tab big mm k a b z pc lv st h c sl => aq_lda k i (pc + 2) lv st h c sl
  | .istore_n i => fun xs tab big mm k a b z pc lv st h c sl => aq_sti k (pm_ml mm) i (pc + 1) lv st h c sl
  | .istore i => fun xs tab big mm k a b z pc lv st h c sl => aq_sti k (pm_ml mm) i (pc + 2) lv st h c sl
  | .lstore_n i => fun xs tab big mm k a b z pc lv st h c sl => aq_stl k (pm_ml mm) i (pc + 1) lv st h c sl
  | .lstore i => fun xs tab big mm k a b z pc lv st h c sl => aq_stl k (pm_ml mm) i (pc + 2) lv st h c sl
  | .astore_n i => fun xs tab big mm k a b z pc lv st h c sl => aq_sta k (pm_ml mm) i (pc + 1) lv st h c sl
  | .astore i => fun xs tab big mm k a b z pc lv st h c sl => aq_sta k (pm_ml mm) i (pc + 2) lv st h c sl
  | .iinc i n => fun xs tab big mm k a b z pc lv st h c sl => aq_iinc k (pm_ml mm) i n pc lv st h c sl
  | .iadd => fun xs tab big mm k a b z pc lv st h c sl => aq_bi k am_add pc lv st h c sl
  | .isub => fun xs tab big mm k a b z pc lv st h c sl => aq_bi k am_sub pc lv st h c sl
  | .imul => fun xs tab big mm k a b z pc lv st h c sl => aq_bi k (am_b (fun x y => x * y)) pc lv st h c sl
  | .iand => fun xs tab big mm k a b z pc lv st h c sl => aq_bi k am_and pc lv st h c sl
  | .ior => fun xs tab big mm k a b z pc lv st h c sl => aq_bi k (am_b (fun x y => x ||| y)) pc lv st h c sl
  | .ixor => fun xs tab big mm k a b z pc lv st h c sl => aq_bi k (am_b (fun x y => x ^^^ y)) pc lv st h c sl
  | .ishl => fun xs tab big mm k a b z pc lv st h c sl => aq_bi k (am_b (fun x y => x <<< (y &&& 31))) pc lv st h c sl
  | .ishr => fun xs tab big mm k a b z pc lv st h c sl => aq_bi k (am_b (fun x y => x >>> (y &&& 31))) pc lv st h c sl
  | .iushr => fun xs tab big mm k a b z pc lv st h c sl => aq_bi k (am_b (fun x y => (x.toUInt32 >>> (y.toUInt32 &&& Int32.toUInt32 31)).toInt32)) pc lv st h c sl
  | .idiv => fun xs tab big mm k a b z pc lv st h c sl => aq_bz k (fun x y => x / y) pc lv st h c sl
  | .irem => fun xs tab big mm k a b z pc lv st h c sl => aq_bz k (fun x y => x - x / y * y) pc lv st h c sl
  | .ladd => fun xs tab big mm k a b z pc lv st h c sl => aq_bl k (fun x y => x + y) pc lv st h c sl
  | .lmul => fun xs tab big mm k a b z pc lv st h c sl => aq_bl k (fun x y => x * y) pc lv st h c sl
  | .ldiv => fun xs tab big mm k a b z pc lv st h c sl => aq_blz k (fun x y => x / y) pc lv st h c sl
  | .lrem => fun xs tab big mm k a b z pc lv st h c sl => aq_blz k (fun x y => x - x / y * y) pc lv st h c sl
  | .ineg => fun xs tab big mm k a b z pc lv st h c sl => aq_u k (fun x => -x) pc lv st h c sl
  | .i2b => fun xs tab big mm k a b z pc lv st h c sl => aq_u k (fun x => x.toInt8.toInt32) pc lv st h c sl
  | .i2s => fun xs tab big mm k a b z pc lv st h c sl => aq_u k (fun x => x.toInt16.toInt32) pc lv st h c sl
  | .i2l => fun xs tab big mm k a b z pc lv st h c sl => aq_i2l k pc lv st h c sl
  | .lcmp => fun xs tab big mm k a b z pc lv st h c sl => aq_lcmp k pc lv st h c sl
  | .dup => fun xs tab big mm k a b z pc lv st h c sl => aq_dup k pc lv st h c sl
  | .dup2 => fun xs tab big mm k a b z pc lv st h c sl => aq_dup2 k pc lv st h c sl
  | .pop => fun xs tab big mm k a b z pc lv st h c sl => aq_pop k pc lv st h c sl
  | .ifCond cd _ => fun xs tab big mm k a b z pc lv st h c sl => aq_if k cd a pc lv st h c sl
  | .if_icmp cd _ => fun xs tab big mm k a b z pc lv st h c sl => aq_ic k cd a pc lv st h c sl
  | .goto _ => fun xs tab big mm k a b z pc lv st h c sl => k a lv st h c sl
  | .tableswitch d lo hi offs => fun xs tab big mm k a b z pc lv st h c sl => aq_tsw k d lo hi offs pc lv st h c sl
  | .getfield _ => fun xs tab big mm k a b z pc lv st h c sl => aq_getf k a b pc lv st h c sl
  | .putfield _ => fun xs tab big mm k a b z pc lv st h c sl => aq_putf k a b pc lv st h c sl
  | .iaload => fun xs tab big mm k a b z pc lv st h c sl => aq_iald k xs pc lv st h c sl
  | .baload => fun xs tab big mm k a b z pc lv st h c sl => aq_bald k pc lv st h c sl
  | .laload => fun xs tab big mm k a b z pc lv st h c sl => aq_lald k pc lv st h c sl
  | .aaload => fun xs tab big mm k a b z pc lv st h c sl => aq_aald k pc lv st h c sl
  | .iastore => fun xs tab big mm k a b z pc lv st h c sl => aq_iast k pc lv st h c sl
  | .bastore => fun xs tab big mm k a b z pc lv st h c sl => aq_bast k pc lv st h c sl
  | .lastore => fun xs tab big mm k a b z pc lv st h c sl => aq_last k pc lv st h c sl
  | .aastore => fun xs tab big mm k a b z pc lv st h c sl => aq_aast k pc lv st h c sl
  | .arraylength => fun xs tab big mm k a b z pc lv st h c sl => aq_alen k xs pc lv st h c sl
  | .new _ => fun xs tab big mm k a b z pc lv st h c sl => aq_new k mm a pc lv st h c sl
  | .newarray at_ => fun xs tab big mm k a b z pc lv st h c sl => aq_newa k mm at_ pc lv st h c sl
  | .anewarray _ => fun xs tab big mm k a b z pc lv st h c sl => aq_anew k mm a pc lv st h c sl
  | .invokevirtual _ => fun xs tab big mm k a b z pc lv st h c sl => if b = 0 then aq_inv k tab big mm a pc lv st h c sl else none
  | .invokespecial _ => fun xs tab big mm k a b z pc lv st h c sl => if b = 1 then aq_inv k tab big mm a pc lv st h c sl else if b = 9 then aq_obj k pc lv st h c sl else none
  | .invokestatic _ => fun xs tab big mm k a b z pc lv st h c sl => if b = 8 then aq_copy k pc lv st h c sl else if b = 2 ∨ b = 3 then aq_ins k tab big mm a pc lv st h c sl else none
  | .ireturn => fun xs tab big mm k a b z pc lv st h c sl => aq_ret mm st h
  | .lreturn => fun xs tab big mm k a b z pc lv st h c sl => aq_retl mm st h
  | .areturn => fun xs tab big mm k a b z pc lv st h c sl => aq_reta mm st h
  | .return_ => fun xs tab big mm k a b z pc lv st h c sl => aq_retv mm st h
  | _ => fun _ _ _ _ _ _ _ _ _ _ _ _ _ _ => none
def am_step (xs : List am_I) (tab : Nat → Option pm_M) (big : Nat → List am_V → am_H → am_R) (mm : pm_M) (k : am_K) (e : pm_E) (pc : Nat) (lv : am_L) (st : List am_V) (h : am_H) (c sl : Nat) : am_R := am_op e.1 xs tab big mm k e.2.1 e.2.2.1 e.2.2.2 pc lv st h c sl
def am_next (xs : List am_I) (tab : Nat → Option pm_M) (big : Nat → List am_V → am_H → am_R) (mm : pm_M) (k : am_K) : am_K := fun pc lv st h c sl => match pm_at mm pc with
  | some e => am_step xs tab big mm k e pc lv st h c sl
  | none => none
noncomputable def am_run (xs : List am_I) (tab : Nat → Option pm_M) (big : Nat → List am_V → am_H → am_R) (mm : pm_M) (k0 : am_K) (n : Nat) : am_K := Nat.rec (motive := fun _ => am_K) k0 (fun _ k => am_next xs tab big mm k) n
def am_words (vs : List am_V) : Nat := (vs.map am_cat).sum
def am_args : Nat → List am_V → am_L
  | _, [] => []
  | i, v :: vs => (i, v) :: am_args (if am_cat v = 2 then i + 2 else i + 1) vs
noncomputable def am_big (xs : List am_I) (tab : Nat → Option pm_M) (N : Nat) (d : Nat) : Nat → List am_V → am_H → am_R := Nat.rec (motive := fun _ => Nat → List am_V → am_H → am_R) (fun _ _ _ => none) (fun _ big M as h => match tab M with
  | some mm => if am_words as ≤ pm_ml mm then (if as.length = pm_n mm then am_run xs tab big mm (fun _ _ _ _ _ _ => none) N 0 (am_args 0 as) [] h 0 0 else none) else none
  | none => none) d
end
section
/-! THE INTERVAL MACHINE is sound for the pure machine: relations, numbers. -/
def am_i (a : am_I) (x : Int32) : Prop := a.1 ≤ x.toInt ∧ x.toInt ≤ a.2
def am_l (a : am_I) (x : Int64) : Prop := a.1 ≤ x.toInt ∧ x.toInt ≤ a.2
def am_v : am_V → Value → Prop
  | .inl a, .int x => am_i a x
  | .inr (.inl a), .long x => am_l a x
  | .inr (.inr (some q)), .ref z => q = z
  | .inr (.inr none), .null => True
  | _, _ => False
def am_all {α β : Type} (R : α → β → Prop) : List α → List β → Prop
  | [], [] => True
  | a :: l, b :: m => R a b ∧ am_all R l m
  | _, _ => False
def am_c : am_C → pm_C → Prop
  | .inl (t, l), .inl (u, m) => t = u ∧ am_all am_i l m
  | .inr (.inl (t, l)), .inr (.inl (u, m)) => t = u ∧ am_all am_l l m
  | .inr (.inr (.inl (t, l))), .inr (.inr (.inl (u, m))) => t = u ∧ l = m
  | .inr (.inr (.inr (t, l))), .inr (.inr (.inr (u, m))) => t = u ∧ am_all am_v l m
  | _, _ => False
def am_h (ha : am_H) (h : pm_H) : Prop := ha.1 = h.length ∧ ∀ (i : Nat) (C : am_C), am_g ha.2 i = some C → ∃ D, h[i]? = some D ∧ am_c C D
def am_q (p : Nat × am_V) (q : Nat × Value) : Prop := p.1 = q.1 ∧ am_v p.2 q.2
def am_o : Option am_V → Option Value → Prop
  | none, none => True
  | some a, some v => am_v a v
  | _, _ => False
def am_r (R : Option am_V × am_H) (r : Option Value × pm_H) : Prop := am_o R.1 r.1 ∧ am_h R.2 r.2
section All
variable {α β : Type} {R : α → β → Prop}
theorem am_all.len : ∀ {l : List α} {m : List β}, am_all R l m → l.length = m.length
  | [], [], _ => rfl
  | a :: l, b :: m, h => by rw [List.length_cons, List.length_cons, am_all.len h.2]
  | [], _ :: _, h => h.elim
  | _ :: _, [], h => h.elim
theorem am_all.get : ∀ {l : List α} {m : List β} {n : Nat} {a : α}, am_all R l m → l[n]? = some a → ∃ b, m[n]? = some b ∧ R a b
  | [], [], _, _, _, h => by simp at h
  | a :: l, b :: m, 0, _, h, e => by cases e; exact ⟨b, rfl, h.1⟩
  | a :: l, b :: m, n + 1, _, h, e => am_all.get (n := n) h.2 e
  | [], _ :: _, _, _, h, _ => h.elim
  | _ :: _, [], _, _, h, _ => h.elim
theorem am_all.set : ∀ {l : List α} {m : List β} {n : Nat} {a : α} {b : β}, am_all R l m → R a b → am_all R (l.set n a) (m.set n b)
  | [], [], _, _, _, _, _ => trivial
  | a :: l, b :: m, 0, _, _, h, r => ⟨r, h.2⟩
  | a :: l, b :: m, n + 1, _, _, h, r => ⟨h.1, am_all.set (n := n) h.2 r⟩
  | [], _ :: _, _, _, _, h, _ => h.elim
  | _ :: _, [], _, _, _, h, _ => h.elim
theorem am_all.app : ∀ {l l2 : List α} {m m2 : List β}, am_all R l m → am_all R l2 m2 → am_all R (l ++ l2) (m ++ m2)
  | [], _, [], _, _, h2 => h2
  | a :: l, _, b :: m, _, h, h2 => ⟨h.1, am_all.app h.2 h2⟩
  | [], _, _ :: _, _, h, _ => h.elim
  | _ :: _, _, [], _, h, _ => h.elim
theorem am_all.rep {a : α} {b : β} (h : R a b) : ∀ n, am_all R (List.replicate n a) (List.replicate n b)
  | 0 => trivial
  | n + 1 => ⟨h, am_all.rep h n⟩
theorem am_all.take : ∀ {l : List α} {m : List β} (n : Nat), am_all R l m → am_all R (l.take n) (m.take n)
  | [], [], 0, _ => trivial
  | [], [], _ + 1, _ => trivial
  | a :: l, b :: m, 0, _ => trivial
  | a :: l, b :: m, n + 1, h => ⟨h.1, am_all.take n h.2⟩
  | [], _ :: _, _, h => h.elim
  | _ :: _, [], _, h => h.elim
theorem am_all.drop : ∀ {l : List α} {m : List β} (n : Nat), am_all R l m → am_all R (l.drop n) (m.drop n)
  | [], [], 0, _ => trivial
  | [], [], _ + 1, _ => trivial
  | a :: l, b :: m, 0, h => h
  | a :: l, b :: m, n + 1, h => am_all.drop n h.2
  | [], _ :: _, _, h => h.elim
  | _ :: _, [], _, h => h.elim
theorem am_all.rev : ∀ {l : List α} {m : List β}, am_all R l m → am_all R l.reverse m.reverse
  | [], [], _ => trivial
  | a :: l, b :: m, h => by
    rw [List.reverse_cons, List.reverse_cons]
    exact am_all.app (am_all.rev h.2) ⟨h.1, trivial⟩
  | [], _ :: _, h => h.elim
  | _ :: _, [], h => h.elim
theorem am_all.filt {P : α → Bool} {Q : β → Bool} (hPQ : ∀ a b, R a b → P a = Q b) : ∀ {l : List α} {m : List β}, am_all R l m → am_all R (l.filter P) (m.filter Q)
  | [], [], _ => trivial
  | a :: l, b :: m, h => by
    have e := hPQ a b h.1
    rw [List.filter_cons, List.filter_cons, e]
    cases Q b
    · exact am_all.filt hPQ h.2
    · exact ⟨h.1, am_all.filt hPQ h.2⟩
  | [], _ :: _, h => h.elim
  | _ :: _, [], h => h.elim
theorem am_all.sum {f : α → Nat} {g : β → Nat} (hfg : ∀ a b, R a b → f a = g b) : ∀ {l : List α} {m : List β}, am_all R l m → (l.map f).sum = (m.map g).sum
  | [], [], _ => rfl
  | a :: l, b :: m, h => by rw [List.map_cons, List.map_cons, List.sum_cons, List.sum_cons, hfg a b h.1, am_all.sum hfg h.2]
  | [], _ :: _, h => h.elim
  | _ :: _, [], h => h.elim
end All
theorem am_v.cat {a : am_V} {v : Value} (h : am_v a v) : am_cat a = v.category := by
  unfold am_v at h
  split at h
  · rfl
  · rfl
  · rfl
  · rfl
  · exact h.elim
theorem av_i {a : am_I} {r : List am_V} {st : List Value} (h : am_all am_v (.inl a :: r) st) : ∃ x st', st = .int x :: st' ∧ am_i a x ∧ am_all am_v r st' := by
  cases st with
  | nil => exact h.elim
  | cons v st =>
    cases v with
    | int x => exact ⟨x, st, rfl, h.1, h.2⟩
    | _ => exact h.1.elim
theorem av_l {a : am_I} {r : List am_V} {st : List Value} (h : am_all am_v (.inr (.inl a) :: r) st) : ∃ x st', st = .long x :: st' ∧ am_l a x ∧ am_all am_v r st' := by
  cases st with
  | nil => exact h.elim
  | cons v st =>
    cases v with
    | long x => exact ⟨x, st, rfl, h.1, h.2⟩
    | _ => exact h.1.elim
theorem av_r {a : Nat} {r : List am_V} {st : List Value} (h : am_all am_v (.inr (.inr (some a)) :: r) st) : ∃ st', st = .ref a :: st' ∧ True ∧ am_all am_v r st' := by
  cases st with
  | nil => exact h.elim
  | cons v st =>
    cases v with
    | ref x => exact ⟨st, by rw [show a = x from h.1], trivial, h.2⟩
    | _ => exact h.1.elim
theorem av_c {a : am_V} {r : List am_V} {st : List Value} (h : am_all am_v (a :: r) st) : ∃ x st', st = x :: st' ∧ am_v a x ∧ am_all am_v r st' := by
  cases st with
  | nil => exact h.elim
  | cons v st => exact ⟨v, st, rfl, h.1, h.2⟩
theorem av_n {st : List Value} (h : am_all am_v [] st) : st = [] := by
  cases st with
  | nil => rfl
  | cons v st => exact h.elim
theorem am_look : ∀ {lva : am_L} {lv : pm_L} {i : Nat} {a : am_V}, am_all am_q lva lv → lva.lookup i = some a → ∃ v, lv.lookup i = some v ∧ am_v a v
  | [], [], _, _, _, h => by cases h
  | (j, b) :: lva, (j2, w) :: lv, i, a, hl, h => by
    obtain ⟨⟨e, hv⟩, hl⟩ := hl
    have e : j = j2 := e
    subst e
    rw [List.lookup_cons] at h ⊢
    cases hb : i == j with
    | true => rw [hb] at h; cases h; exact ⟨w, rfl, hv⟩
    | false => rw [hb] at h; exact am_look hl h
  | [], _ :: _, _, _, h, _ => h.elim
  | _ :: _, [], _, _, h, _ => h.elim
theorem am_s1_ok {lva : am_L} {lv : pm_L} {i : Nat} {a : am_V} {v : Value} (hl : am_all am_q lva lv) (h : am_v a v) : am_all am_q (am_s1 lva i a) (pm_s1 lv i v) := by
  refine ⟨⟨rfl, h⟩, am_all.filt (fun p q h => ?_) hl⟩
  rw [h.1, h.2.cat]
theorem am_s2_ok {lva : am_L} {lv : pm_L} {i : Nat} {a : am_V} {v : Value} (hl : am_all am_q lva lv) (h : am_v a v) : am_all am_q (am_s2 lva i a) (pm_s2 lv i v) := by
  refine ⟨⟨rfl, h⟩, am_all.filt (fun p q h => ?_) hl⟩
  rw [h.1, h.2.cat]
theorem am_cell_ok {ha : am_H} {h : pm_H} {a : Nat} {C : am_C} (hh : am_h ha h) (hc : am_cell ha a = some C) : ∃ D, pm_cell h a = some D ∧ am_c C D := by
  unfold am_cell at hc
  unfold pm_cell
  split at hc
  · cases hc
  · rename_i hn
    rw [if_neg hn]
    exact hh.2 _ _ hc
theorem am_hset {ha : am_H} {h : pm_H} {a : Nat} {C0 C : am_C} {D : pm_C} (hh : am_h ha h) (h0 : am_cell ha a = some C0) (hc : am_c C D) : am_h (am_st ha (a - 8) C) (h.set (a - 8) D) := by
  unfold am_cell at h0
  split at h0
  · cases h0
  · generalize a - 8 = i at h0
    obtain ⟨D0, hD0, -⟩ := hh.2 i C0 h0
    have hi : i < h.length := (List.getElem?_eq_some_iff.mp hD0).1
    unfold am_g at h0
    unfold am_st
    split at h0
    · rename_i ch hch
      refine ⟨by rw [List.length_set]; exact hh.1, ?_⟩
      intro j E hE
      have hq : i / 9 < ha.2.length := (List.getElem?_eq_some_iff.mp hch).1
      have hr : i % 9 < ch.length := (List.getElem?_eq_some_iff.mp h0).1
      have hE : am_g (ha.2.set (i / 9) (ch.set (i % 9) C)) j = some E := hE
      unfold am_g at hE
      by_cases hj : j / 9 = i / 9
      · rw [hj, List.getElem?_set_self hq] at hE
        have hE : (ch.set (i % 9) C)[j % 9]? = some E := hE
        by_cases hm : j % 9 = i % 9
        · have e : j = i := by omega
          subst e
          rw [List.getElem?_set_self hr] at hE
          cases hE
          exact ⟨D, List.getElem?_set_self hi, hc⟩
        · rw [List.getElem?_set_ne (Ne.symm hm)] at hE
          have e : i ≠ j := fun e => hm (by rw [e])
          rw [List.getElem?_set_ne e]
          refine hh.2 j E ?_
          unfold am_g
          rw [hj, hch]
          exact hE
      · rw [List.getElem?_set_ne (Ne.symm hj)] at hE
        have e : i ≠ j := fun e => hj (by rw [e])
        rw [List.getElem?_set_ne e]
        exact hh.2 j E hE
    · cases h0
theorem am_push {ha ha' : am_H} {h : pm_H} {C : am_C} {D : pm_C} (hh : am_h ha h) (hp : am_ps ha C = some ha') (hc : am_c C D) : am_h ha' (h ++ [D]) := by
  have hn : ha.1 = h.length := hh.1
  have old : ∀ (j : Nat) (E : am_C), am_g ha.2 j = some E → ∃ D', (h ++ [D])[j]? = some D' ∧ am_c E D' := by
    intro j E hE
    obtain ⟨D', h1, h2⟩ := hh.2 j E hE
    exact ⟨D', by rw [List.getElem?_append_left (List.getElem?_eq_some_iff.mp h1).1]; exact h1, h2⟩
  have new : (h ++ [D])[ha.1]? = some D := by
    rw [hn, List.getElem?_append_right (Nat.le_refl _), Nat.sub_self]
    rfl
  unfold am_ps at hp
  split at hp
  · rename_i ch hch
    split at hp
    · rename_i hl
      cases hp
      refine ⟨by rw [List.length_append, ← hn]; rfl, ?_⟩
      intro j E hE
      have hq : ha.1 / 9 < ha.2.length := (List.getElem?_eq_some_iff.mp hch).1
      have hE0 : am_g (ha.2.set (ha.1 / 9) (ch ++ [C])) j = some E := hE
      have hE := hE0
      unfold am_g at hE
      by_cases hj : j / 9 = ha.1 / 9
      · rw [hj, List.getElem?_set_self hq] at hE
        have hE : (ch ++ [C])[j % 9]? = some E := hE
        by_cases hm : j % 9 < ch.length
        · rw [List.getElem?_append_left hm] at hE
          refine old j E ?_
          unfold am_g
          rw [hj, hch]
          exact hE
        · rw [List.getElem?_append_right (by omega)] at hE
          have hz : j % 9 - ch.length < 1 := (List.getElem?_eq_some_iff.mp hE).1
          rw [show j % 9 - ch.length = 0 by omega] at hE
          cases hE
          have e : j = ha.1 := by omega
          rw [e]
          exact ⟨D, new, hc⟩
      · rw [List.getElem?_set_ne (Ne.symm hj)] at hE
        exact old j E hE
    · cases hp
  · rename_i hch
    split at hp
    · rename_i hl
      cases hp
      refine ⟨by rw [List.length_append, ← hn]; rfl, ?_⟩
      intro j E hE
      have hE0 : am_g (ha.2 ++ [[C]]) j = some E := hE
      have hE := hE0
      unfold am_g at hE
      by_cases hj : j / 9 < ha.2.length
      · rw [List.getElem?_append_left hj] at hE
        exact old j E hE
      · rw [List.getElem?_append_right (by omega)] at hE
        split at hE
        · rename_i ch hc1
          have hz : j / 9 - ha.2.length < 1 := (List.getElem?_eq_some_iff.mp hc1).1
          rw [show j / 9 - ha.2.length = 0 by omega] at hc1
          cases hc1
          have hz2 : j % 9 < 1 := (List.getElem?_eq_some_iff.mp hE).1
          rw [show j % 9 = 0 by omega] at hE
          cases hE
          have e : j = ha.1 := by omega
          rw [e]
          exact ⟨D, new, hc⟩
        · cases hE
    · cases hp
theorem ac_i {t : Nat} {l : List am_I} {D : pm_C} (h : am_c (.inl (t, l)) D) : ∃ m, D = .inl (t, m) ∧ am_all am_i l m := by
  match D, h with
  | .inl (u, m), h => exact ⟨m, by rw [show t = u from h.1], h.2⟩
  | .inr (.inl _), h => exact h.elim
  | .inr (.inr (.inl _)), h => exact h.elim
  | .inr (.inr (.inr _)), h => exact h.elim
theorem ac_l {t : Nat} {l : List am_I} {D : pm_C} (h : am_c (.inr (.inl (t, l))) D) : ∃ m, D = .inr (.inl (t, m)) ∧ am_all am_l l m := by
  match D, h with
  | .inl _, h => exact h.elim
  | .inr (.inl (u, m)), h => exact ⟨m, by rw [show t = u from h.1], h.2⟩
  | .inr (.inr (.inl _)), h => exact h.elim
  | .inr (.inr (.inr _)), h => exact h.elim
theorem ac_r {t : Nat} {l : List (Option Nat)} {D : pm_C} (h : am_c (.inr (.inr (.inl (t, l)))) D) : D = .inr (.inr (.inl (t, l))) := by
  match D, h with
  | .inl _, h => exact h.elim
  | .inr (.inl _), h => exact h.elim
  | .inr (.inr (.inl (u, m))), h => rw [show t = u from h.1, show l = m from h.2]
  | .inr (.inr (.inr _)), h => exact h.elim
theorem ac_o {t : Nat} {l : List am_V} {D : pm_C} (h : am_c (.inr (.inr (.inr (t, l)))) D) : ∃ m, D = .inr (.inr (.inr (t, m))) ∧ am_all am_v l m := by
  match D, h with
  | .inl _, h => exact h.elim
  | .inr (.inl _), h => exact h.elim
  | .inr (.inr (.inl _)), h => exact h.elim
  | .inr (.inr (.inr (u, m))), h => exact ⟨m, by rw [show t = u from h.1], h.2⟩
/-! numbers -/
theorem am_i.sg (x : Int32) : am_i (x.toInt, x.toInt) x := ⟨Int.le_refl _, Int.le_refl _⟩
theorem am_l.sg (x : Int64) : am_l (x.toInt, x.toInt) x := ⟨Int.le_refl _, Int.le_refl _⟩
theorem am_i.of {a : am_I} {x : Int32} (h : am_i a x) (e : a.1 = a.2) : x = Int32.ofInt a.1 := by
  have : x.toInt = a.1 := by have h1 := h.1; have h2 := h.2; omega
  rw [← this, Int32.ofInt_toInt]
theorem am_l.of {a : am_I} {x : Int64} (h : am_l a x) (e : a.1 = a.2) : x = Int64.ofInt a.1 := by
  have : x.toInt = a.1 := by have h1 := h.1; have h2 := h.2; omega
  rw [← this, Int64.ofInt_toInt]
theorem am_i.rng (x : Int32) : -2147483648 ≤ x.toInt ∧ x.toInt ≤ 2147483647 := by
  have h1 := Int32.le_toInt x
  have h2 := Int32.toInt_lt x
  omega
theorem am_i.top (x : Int32) : am_i am_top x := am_i.rng x
theorem am_l.top (x : Int64) : am_l am_topl x := by
  have h1 := Int64.le_toInt x
  have h2 := Int64.toInt_lt x
  exact ⟨by show (-9223372036854775808 : Int) ≤ _; omega, by show _ ≤ (9223372036854775807 : Int); omega⟩
theorem am_b_ok (f : Int32 → Int32 → Int32) {a b : am_I} {x y : Int32} (hx : am_i a x) (hy : am_i b y) : am_i (am_b f a b) (f x y) := by
  unfold am_b
  split
  · rename_i h
    rw [hx.of h.1, hy.of h.2]
    exact am_i.sg _
  · exact am_i.top _
theorem am_bl_ok (f : Int64 → Int64 → Int64) {a b : am_I} {x y : Int64} (hx : am_l a x) (hy : am_l b y) : am_l (am_bl f a b) (f x y) := by
  unfold am_bl
  split
  · rename_i h
    rw [hx.of h.1, hy.of h.2]
    exact am_l.sg _
  · exact am_l.top _
theorem am_u_ok (f : Int32 → Int32) {a : am_I} {x : Int32} (hx : am_i a x) : am_i (am_u f a) (f x) := by
  unfold am_u
  split
  · rename_i h
    rw [hx.of h]
    exact am_i.sg _
  · exact am_i.top _
theorem am_nrm_ok {lo hi : Int} {z : Int32} {w : Int} (hz : z.toInt = w.bmod 4294967296) (h1 : lo ≤ w) (h2 : w ≤ hi) : am_i (am_nrm lo hi) z := by
  have hr := am_i.rng z
  have hm : z.toInt = w % 4294967296 ∨ z.toInt = w % 4294967296 - 4294967296 := by
    rw [hz]
    unfold Int.bmod
    dsimp only
    split
    · exact Or.inl rfl
    · exact Or.inr rfl
  have hq : ∃ q : Int, z.toInt = w - 4294967296 * q := by
    rcases hm with hm | hm
    · exact ⟨w / 4294967296, by omega⟩
    · exact ⟨w / 4294967296 + 1, by omega⟩
  obtain ⟨q, hq⟩ := hq
  unfold am_nrm am_i
  split
  · refine ⟨?_, ?_⟩
    · show lo ≤ _
      omega
    · show _ ≤ hi
      omega
  · split
    · refine ⟨?_, ?_⟩
      · show lo + 4294967296 ≤ _
        omega
      · show _ ≤ hi + 4294967296
        omega
    · split
      · refine ⟨?_, ?_⟩
        · show lo - 4294967296 ≤ _
          omega
        · show _ ≤ hi - 4294967296
          omega
      · exact hr
theorem am_add_ok {a b : am_I} {x y : Int32} (hx : am_i a x) (hy : am_i b y) : am_i (am_add a b) (x + y) := am_nrm_ok (Int32.toInt_add x y) (by have h1 := hx.1; have h2 := hy.1; omega) (by have h1 := hx.2; have h2 := hy.2; omega)
theorem am_sub_ok {a b : am_I} {x y : Int32} (hx : am_i a x) (hy : am_i b y) : am_i (am_sub a b) (x - y) := am_nrm_ok (Int32.toInt_sub x y) (by have h1 := hx.1; have h2 := hy.2; omega) (by have h1 := hx.2; have h2 := hy.1; omega)
theorem am_and_ok {a b : am_I} {x y : Int32} (hx : am_i a x) (hy : am_i b y) : am_i (am_and a b) (x &&& y) := by
  unfold am_and
  split
  · exact am_b_ok (fun x y => x &&& y) hx hy
  · split
    · rename_i e
      subst e
      have ey : y = 63 := hy.of rfl
      subst ey
      obtain ⟨j, hj, e⟩ := pk_andE x (m := 63) 6 (by decide)
      rw [e]
      have e2 : (nI j).toInt = (j : Int) := nI_toInt (by omega)
      unfold am_i
      rw [e2]
      refine ⟨?_, ?_⟩
      · show (0 : Int) ≤ _
        omega
      · show _ ≤ (63 : Int)
        omega
    · exact am_i.top _
theorem am_ix_ok {a : am_I} {n : Nat} {x : Int32} (h : am_ix a = some n) (hx : am_i a x) : ¬ x < 0 ∧ x.toNatClampNeg = n := by
  unfold am_ix at h
  split at h
  · rename_i e
    cases h
    have e1 : x.toInt = a.1 := by have h1 := hx.1; have h2 := hx.2; omega
    refine ⟨?_, ?_⟩
    · rw [Int32.lt_iff_toInt_lt, e1]
      show ¬ a.1 < 0
      omega
    · show x.toInt.toNat = _
      rw [e1]
  · cases h
theorem am_fit_ok {ty : FieldType} {a : am_V} {v : Value} (h : am_fit ty a = true) (hv : am_v a v) : pm_fit ty v = true := by
  unfold am_fit at h
  split at h
  · rename_i a
    cases v with
    | int x => rfl
    | _ => exact hv.elim
  · rename_i a
    cases v with
    | long x => rfl
    | _ => exact hv.elim
  · rename_i a
    cases v with
    | int x =>
      rw [Bool.and_eq_true, Bool.or_eq_true] at h
      have e := of_decide_eq_true h.1
      have hx : am_i a x := hv
      rcases h.2 with q | q
      · have q := of_decide_eq_true q
        have : x = 0 := by rw [hx.of e, q]; rfl
        subst this
        rfl
      · have q := of_decide_eq_true q
        have : x = 1 := by rw [hx.of e, q]; rfl
        subst this
        rfl
    | _ => exact hv.elim
  · rename_i n q
    cases v with
    | ref x => rfl
    | _ => exact hv.elim
  · rename_i n q
    cases v with
    | ref x => rfl
    | _ => exact hv.elim
  · cases h
theorem am_ne0 {a : am_I} {x : Int32} (hx : am_i a x) (h : a.2 < 0 ∨ 0 < a.1) : ¬ x = 0 := by
  intro e
  subst e
  have h1 : a.1 ≤ 0 := hx.1
  have h2 : 0 ≤ a.2 := hx.2
  omega
theorem am_ne0l {a : am_I} {x : Int64} (hx : am_l a x) (h : a.2 < 0 ∨ 0 < a.1) : ¬ x = 0 := by
  intro e
  subst e
  have h1 : a.1 ≤ 0 := hx.1
  have h2 : 0 ≤ a.2 := hx.2
  omega
theorem am_cmp_ok {a b : am_I} {x y : Int64} (hx : am_l a x) (hy : am_l b y) : am_i (am_cmp a b) (lg_cmp x y) := by
  have h1 := hx.1
  have h2 := hx.2
  have h3 := hy.1
  have h4 := hy.2
  unfold am_cmp am_i lg_cmp
  by_cases hg : y < x
  · have hg1 := Int64.lt_iff_toInt_lt.mp hg
    rw [if_pos hg]
    refine ⟨?_, ?_⟩
    · show (if b.2 < a.1 then 1 else if b.2 ≤ a.1 then 0 else -1) ≤ (1 : Int)
      split
      · omega
      · split <;> omega
    · show (1 : Int) ≤ (if a.2 < b.1 then -1 else if a.2 ≤ b.1 then 0 else 1)
      split
      · omega
      · split <;> omega
  · have hg1 : ¬ y.toInt < x.toInt := fun q => hg (Int64.lt_iff_toInt_lt.mpr q)
    rw [if_neg hg]
    by_cases he : x = y
    · subst he
      rw [if_pos rfl]
      refine ⟨?_, ?_⟩
      · show (if b.2 < a.1 then 1 else if b.2 ≤ a.1 then 0 else -1) ≤ (0 : Int)
        split
        · omega
        · split <;> omega
      · show (0 : Int) ≤ (if a.2 < b.1 then -1 else if a.2 ≤ b.1 then 0 else 1)
        split
        · omega
        · split <;> omega
    · have he1 : ¬ x.toInt = y.toInt := fun q => he (Int64.toInt_inj.mp q)
      rw [if_neg he]
      refine ⟨?_, ?_⟩
      · show (if b.2 < a.1 then 1 else if b.2 ≤ a.1 then 0 else -1) ≤ (-1 : Int)
        split
        · omega
        · split <;> omega
      · show (-1 : Int) ≤ (if a.2 < b.1 then -1 else if a.2 ≤ b.1 then 0 else 1)
        split
        · omega
        · split <;> omega
theorem am_i2l_ok {a : am_I} {x : Int32} (hx : am_i a x) : am_l a x.toInt64 := by
  unfold am_l
  rw [Int32.toInt_toInt64]
  exact hx
end
section
/-! THE INTERVAL MACHINE is sound for the pure machine: each instruction, a frame, a call. -/
def am_S (Pr : Option am_V × am_H → Option Value × pm_H → Prop) (ka : am_K) (kc : pm_K) : Prop := ∀ (pc : Nat) (lva : am_L) (sta : List am_V) (ha : am_H) (c sl : Nat) (R : Option am_V × am_H), ka pc lva sta ha c sl = some R → ∀ (lv : pm_L) (st : List Value) (h : pm_H), am_all am_q lva lv → am_all am_v sta st → am_h ha h → ∃ r, kc pc lv st h c sl = some r ∧ Pr R r
section Sim
variable {Pr : Option am_V × am_H → Option Value × pm_H → Prop} {ka : am_K} {kc : pm_K} {pc : Nat} {lva : am_L} {sta : List am_V} {ha : am_H} {c sl : Nat} {R : Option am_V × am_H} {lv : pm_L} {st : List Value} {h : pm_H}
theorem at_bi (ih : am_S Pr ka kc) {fa : am_I → am_I → am_I} {f : Int32 → Int32 → Int32} (hf : ∀ a b x y, am_i a x → am_i b y → am_i (fa a b) (f x y)) (hk : aq_bi ka fa pc lva sta ha c sl = some R) (hl : am_all am_q lva lv) (hs : am_all am_v sta st) (hh : am_h ha h) : ∃ r, pm_bi kc f pc lv st h c sl = some r ∧ Pr R r := by
  unfold aq_bi at hk
  split at hk
  · obtain ⟨y, st, rfl, hy, hs⟩ := av_i hs
    obtain ⟨x, st, rfl, hx, hs⟩ := av_i hs
    exact ih _ _ _ _ _ _ _ hk _ _ _ hl ⟨hf _ _ _ _ hx hy, hs⟩ hh
  · cases hk
theorem at_bz (ih : am_S Pr ka kc) {f : Int32 → Int32 → Int32} (hk : aq_bz ka f pc lva sta ha c sl = some R) (hl : am_all am_q lva lv) (hs : am_all am_v sta st) (hh : am_h ha h) : ∃ r, pm_bz kc f pc lv st h c sl = some r ∧ Pr R r := by
  unfold aq_bz at hk
  split at hk
  · obtain ⟨y, st, rfl, hy, hs⟩ := av_i hs
    obtain ⟨x, st, rfl, hx, hs⟩ := av_i hs
    split at hk
    · rename_i hn
      obtain ⟨r, hr, hp⟩ := ih _ _ _ _ _ _ _ hk lv (.int (f x y) :: st) h hl ⟨am_b_ok f hx hy, hs⟩ hh
      exact ⟨r, (if_neg (am_ne0 hy hn)).trans hr, hp⟩
    · cases hk
  · cases hk
theorem at_bl (ih : am_S Pr ka kc) {f : Int64 → Int64 → Int64} (hk : aq_bl ka f pc lva sta ha c sl = some R) (hl : am_all am_q lva lv) (hs : am_all am_v sta st) (hh : am_h ha h) : ∃ r, pm_bl kc f pc lv st h c sl = some r ∧ Pr R r := by
  unfold aq_bl at hk
  split at hk
  · obtain ⟨y, st, rfl, hy, hs⟩ := av_l hs
    obtain ⟨x, st, rfl, hx, hs⟩ := av_l hs
    exact ih _ _ _ _ _ _ _ hk _ _ _ hl ⟨am_bl_ok f hx hy, hs⟩ hh
  · cases hk
theorem at_blz (ih : am_S Pr ka kc) {f : Int64 → Int64 → Int64} (hk : aq_blz ka f pc lva sta ha c sl = some R) (hl : am_all am_q lva lv) (hs : am_all am_v sta st) (hh : am_h ha h) : ∃ r, pm_blz kc f pc lv st h c sl = some r ∧ Pr R r := by
  unfold aq_blz at hk
  split at hk
  · obtain ⟨y, st, rfl, hy, hs⟩ := av_l hs
    obtain ⟨x, st, rfl, hx, hs⟩ := av_l hs
    split at hk
    · rename_i hn
      obtain ⟨r, hr, hp⟩ := ih _ _ _ _ _ _ _ hk lv (.long (f x y) :: st) h hl ⟨am_bl_ok f hx hy, hs⟩ hh
      exact ⟨r, (if_neg (am_ne0l hy hn)).trans hr, hp⟩
    · cases hk
  · cases hk
theorem at_u (ih : am_S Pr ka kc) {f : Int32 → Int32} (hk : aq_u ka f pc lva sta ha c sl = some R) (hl : am_all am_q lva lv) (hs : am_all am_v sta st) (hh : am_h ha h) : ∃ r, pm_u kc f pc lv st h c sl = some r ∧ Pr R r := by
  unfold aq_u at hk
  split at hk
  · obtain ⟨x, st, rfl, hx, hs⟩ := av_i hs
    exact ih _ _ _ _ _ _ _ hk _ _ _ hl ⟨am_u_ok f hx, hs⟩ hh
  · cases hk
theorem at_i2l (ih : am_S Pr ka kc)  (hk : aq_i2l ka pc lva sta ha c sl = some R) (hl : am_all am_q lva lv) (hs : am_all am_v sta st) (hh : am_h ha h) : ∃ r, pm_i2l kc pc lv st h c sl = some r ∧ Pr R r := by
  unfold aq_i2l at hk
  split at hk
  · obtain ⟨x, st, rfl, hx, hs⟩ := av_i hs
    exact ih _ _ _ _ _ _ _ hk _ _ _ hl ⟨am_i2l_ok hx, hs⟩ hh
  · cases hk
theorem at_lcmp (ih : am_S Pr ka kc)  (hk : aq_lcmp ka pc lva sta ha c sl = some R) (hl : am_all am_q lva lv) (hs : am_all am_v sta st) (hh : am_h ha h) : ∃ r, pm_lcmp kc pc lv st h c sl = some r ∧ Pr R r := by
  unfold aq_lcmp at hk
  split at hk
  · obtain ⟨y, st, rfl, hy, hs⟩ := av_l hs
    obtain ⟨x, st, rfl, hx, hs⟩ := av_l hs
    exact ih _ _ _ _ _ _ _ hk _ _ _ hl ⟨am_cmp_ok hx hy, hs⟩ hh
  · cases hk
theorem at_dup (ih : am_S Pr ka kc)  (hk : aq_dup ka pc lva sta ha c sl = some R) (hl : am_all am_q lva lv) (hs : am_all am_v sta st) (hh : am_h ha h) : ∃ r, pm_dup kc pc lv st h c sl = some r ∧ Pr R r := by
  unfold aq_dup at hk
  split at hk
  · obtain ⟨x, st, rfl, hx, hs⟩ := av_c hs
    split at hk
    · rename_i hc
      obtain ⟨r, hr, hp⟩ := ih _ _ _ _ _ _ _ hk lv (x :: x :: st) h hl ⟨hx, hx, hs⟩ hh
      exact ⟨r, (if_pos (hx.cat.symm.trans hc)).trans hr, hp⟩
    · cases hk
  · cases hk
theorem at_pop (ih : am_S Pr ka kc)  (hk : aq_pop ka pc lva sta ha c sl = some R) (hl : am_all am_q lva lv) (hs : am_all am_v sta st) (hh : am_h ha h) : ∃ r, pm_pop kc pc lv st h c sl = some r ∧ Pr R r := by
  unfold aq_pop at hk
  split at hk
  · obtain ⟨x, st, rfl, hx, hs⟩ := av_c hs
    split at hk
    · rename_i hc
      obtain ⟨r, hr, hp⟩ := ih _ _ _ _ _ _ _ hk lv st h hl hs hh
      exact ⟨r, (if_pos (hx.cat.symm.trans hc)).trans hr, hp⟩
    · cases hk
  · cases hk
theorem at_dup2 (ih : am_S Pr ka kc)  (hk : aq_dup2 ka pc lva sta ha c sl = some R) (hl : am_all am_q lva lv) (hs : am_all am_v sta st) (hh : am_h ha h) : ∃ r, pm_dup2 kc pc lv st h c sl = some r ∧ Pr R r := by
  unfold aq_dup2 at hk
  split at hk
  · obtain ⟨x, st, rfl, hx, hs⟩ := av_c hs
    obtain ⟨y, st, rfl, hy, hs⟩ := av_c hs
    split at hk
    · rename_i hc
      split at hk
      · rename_i hd
        obtain ⟨r, hr, hp⟩ := ih _ _ _ _ _ _ _ hk lv (x :: y :: x :: y :: st) h hl ⟨hx, hy, hx, hy, hs⟩ hh
        exact ⟨r, (if_pos (hx.cat.symm.trans hc)).trans ((if_pos (hy.cat.symm.trans hd)).trans hr), hp⟩
      · cases hk
    · cases hk
  · cases hk
theorem at_ldi (ih : am_S Pr ka kc) {i npc : Nat} (hk : aq_ldi ka i npc lva sta ha c sl = some R) (hl : am_all am_q lva lv) (hs : am_all am_v sta st) (hh : am_h ha h) : ∃ r, pm_ldi kc i npc lv st h c sl = some r ∧ Pr R r := by
  unfold aq_ldi at hk
  split at hk
  · rename_i x hx
    obtain ⟨v, hv, hr0⟩ := am_look hl hx
    cases v with
    | int z =>
      obtain ⟨r, hr, hp⟩ := ih _ _ _ _ _ _ _ hk lv (.int z :: st) h hl ⟨hr0, hs⟩ hh
      refine ⟨r, ?_, hp⟩
      unfold pm_ldi
      rw [hv]
      exact hr
    | _ => exact hr0.elim
  · cases hk
theorem at_ldl (ih : am_S Pr ka kc) {i npc : Nat} (hk : aq_ldl ka i npc lva sta ha c sl = some R) (hl : am_all am_q lva lv) (hs : am_all am_v sta st) (hh : am_h ha h) : ∃ r, pm_ldl kc i npc lv st h c sl = some r ∧ Pr R r := by
  unfold aq_ldl at hk
  split at hk
  · rename_i x hx
    obtain ⟨v, hv, hr0⟩ := am_look hl hx
    cases v with
    | long z =>
      obtain ⟨r, hr, hp⟩ := ih _ _ _ _ _ _ _ hk lv (.long z :: st) h hl ⟨hr0, hs⟩ hh
      refine ⟨r, ?_, hp⟩
      unfold pm_ldl
      rw [hv]
      exact hr
    | _ => exact hr0.elim
  · cases hk
theorem at_lda (ih : am_S Pr ka kc) {i npc : Nat} (hk : aq_lda ka i npc lva sta ha c sl = some R) (hl : am_all am_q lva lv) (hs : am_all am_v sta st) (hh : am_h ha h) : ∃ r, pm_lda kc i npc lv st h c sl = some r ∧ Pr R r := by
  unfold aq_lda at hk
  split at hk
  · rename_i x hx
    obtain ⟨v, hv, hr0⟩ := am_look hl hx
    cases v with
    | ref z =>
      obtain ⟨r, hr, hp⟩ := ih _ _ _ _ _ _ _ hk lv (.ref z :: st) h hl ⟨hr0, hs⟩ hh
      refine ⟨r, ?_, hp⟩
      unfold pm_lda
      rw [hv]
      exact hr
    | _ => exact hr0.elim
  · cases hk
theorem at_sti (ih : am_S Pr ka kc) {nL i npc : Nat} (hk : aq_sti ka nL i npc lva sta ha c sl = some R) (hl : am_all am_q lva lv) (hs : am_all am_v sta st) (hh : am_h ha h) : ∃ r, pm_sti kc nL i npc lv st h c sl = some r ∧ Pr R r := by
  unfold aq_sti at hk
  split at hk
  · obtain ⟨x, st, rfl, hx, hs⟩ := av_i hs
    split at hk
    · rename_i hi
      obtain ⟨r, hr, hp⟩ := ih _ _ _ _ _ _ _ hk _ st h (am_s1_ok (v := .int x) hl hx) hs hh
      exact ⟨r, (if_pos hi).trans hr, hp⟩
    · cases hk
  · cases hk
theorem at_stl (ih : am_S Pr ka kc) {nL i npc : Nat} (hk : aq_stl ka nL i npc lva sta ha c sl = some R) (hl : am_all am_q lva lv) (hs : am_all am_v sta st) (hh : am_h ha h) : ∃ r, pm_stl kc nL i npc lv st h c sl = some r ∧ Pr R r := by
  unfold aq_stl at hk
  split at hk
  · obtain ⟨x, st, rfl, hx, hs⟩ := av_l hs
    split at hk
    · rename_i hi
      obtain ⟨r, hr, hp⟩ := ih _ _ _ _ _ _ _ hk _ st h (am_s2_ok (v := .long x) hl hx) hs hh
      exact ⟨r, (if_pos hi).trans hr, hp⟩
    · cases hk
  · cases hk
theorem at_sta (ih : am_S Pr ka kc) {nL i npc : Nat} (hk : aq_sta ka nL i npc lva sta ha c sl = some R) (hl : am_all am_q lva lv) (hs : am_all am_v sta st) (hh : am_h ha h) : ∃ r, pm_sta kc nL i npc lv st h c sl = some r ∧ Pr R r := by
  unfold aq_sta at hk
  split at hk
  · rename_i x rr
    obtain ⟨st, rfl, -, hs⟩ := av_r hs
    split at hk
    · rename_i hi
      obtain ⟨r, hr, hp⟩ := ih _ _ _ _ _ _ _ hk _ st h (am_s1_ok (v := .ref x) hl rfl) hs hh
      exact ⟨r, (if_pos hi).trans hr, hp⟩
    · cases hk
  · cases hk
theorem at_iinc (ih : am_S Pr ka kc) {nL i : Nat} {n : Int} (hk : aq_iinc ka nL i n pc lva sta ha c sl = some R) (hl : am_all am_q lva lv) (hs : am_all am_v sta st) (hh : am_h ha h) : ∃ r, pm_iinc kc nL i n pc lv st h c sl = some r ∧ Pr R r := by
  unfold aq_iinc at hk
  split at hk
  · rename_i x hx
    obtain ⟨v, hv, hr0⟩ := am_look hl hx
    cases v with
    | int z =>
      split at hk
      · rename_i hi
        obtain ⟨r, hr, hp⟩ := ih _ _ _ _ _ _ _ hk _ st h (am_s1_ok (v := .int (z + Int32.ofInt n)) hl (am_b_ok (fun a b => a + b) hr0 (am_i.sg _))) hs hh
        refine ⟨r, ?_, hp⟩
        unfold pm_iinc
        rw [hv]
        exact (if_pos hi).trans hr
      · cases hk
    | _ => exact hr0.elim
  · cases hk
theorem am_dec_ok {cd : ClassFile.Cond} {a b : am_I} {t : Bool} {x y : Int32} {tgt : Nat} (hd : am_dec cd a b = some t) (hx : am_i a x) (hy : am_i b y) : pm_ic kc cd tgt pc lv (.int y :: .int x :: st) h c sl = (match t with
    | true => kc tgt lv st h c sl
    | false => kc (pc + 3) lv st h c sl) := by
  have h1 := hx.1
  have h2 := hx.2
  have h3 := hy.1
  have h4 := hy.2
  cases cd with
  | eq =>
    have hd : (if a.2 < b.1 ∨ b.2 < a.1 then some false else if a.1 = a.2 ∧ b.1 = b.2 ∧ a.1 = b.1 then some true else none) = some t := hd
    split at hd
    · cases hd
      exact if_neg (fun q => by subst q; omega)
    · split at hd
      · cases hd
        exact if_pos (Int32.toInt_inj.mp (by omega))
      · cases hd
  | ne =>
    have hd : (if a.2 < b.1 ∨ b.2 < a.1 then some true else if a.1 = a.2 ∧ b.1 = b.2 ∧ a.1 = b.1 then some false else none) = some t := hd
    split at hd
    · cases hd
      exact if_neg (fun q => by subst q; omega)
    · split at hd
      · cases hd
        exact if_pos (Int32.toInt_inj.mp (by omega))
      · cases hd
  | lt =>
    have hd : (if a.2 < b.1 then some true else if b.2 ≤ a.1 then some false else none) = some t := hd
    split at hd
    · cases hd
      exact if_pos (Int32.lt_iff_toInt_lt.mpr (by omega))
    · split at hd
      · cases hd
        exact if_neg (fun q => by have := Int32.lt_iff_toInt_lt.mp q; omega)
      · cases hd
  | ge =>
    have hd : (if b.2 ≤ a.1 then some true else if a.2 < b.1 then some false else none) = some t := hd
    split at hd
    · cases hd
      exact if_pos (Int32.le_iff_toInt_le.mpr (by omega))
    · split at hd
      · cases hd
        exact if_neg (fun q => by have := Int32.le_iff_toInt_le.mp q; omega)
      · cases hd
  | gt =>
    have hd : (if b.2 < a.1 then some true else if a.2 ≤ b.1 then some false else none) = some t := hd
    split at hd
    · cases hd
      exact if_pos (Int32.lt_iff_toInt_lt.mpr (by omega))
    · split at hd
      · cases hd
        exact if_neg (fun q => by have := Int32.lt_iff_toInt_lt.mp q; omega)
      · cases hd
  | le =>
    have hd : (if a.2 ≤ b.1 then some true else if b.2 < a.1 then some false else none) = some t := hd
    split at hd
    · cases hd
      exact if_pos (Int32.le_iff_toInt_le.mpr (by omega))
    · split at hd
      · cases hd
        exact if_neg (fun q => by have := Int32.le_iff_toInt_le.mp q; omega)
      · cases hd
theorem pm_ic_or (cd : ClassFile.Cond) (x y : Int32) (tgt : Nat) : pm_ic kc cd tgt pc lv (.int y :: .int x :: st) h c sl = kc tgt lv st h c sl ∨ pm_ic kc cd tgt pc lv (.int y :: .int x :: st) h c sl = kc (pc + 3) lv st h c sl := by
  cases cd with
  | eq =>
    by_cases q : x = y
    · exact Or.inl (if_pos q)
    · exact Or.inr (if_neg q)
  | ne =>
    by_cases q : x = y
    · exact Or.inr (if_pos q)
    · exact Or.inl (if_neg q)
  | lt =>
    by_cases q : x < y
    · exact Or.inl (if_pos q)
    · exact Or.inr (if_neg q)
  | ge =>
    by_cases q : y ≤ x
    · exact Or.inl (if_pos q)
    · exact Or.inr (if_neg q)
  | gt =>
    by_cases q : y < x
    · exact Or.inl (if_pos q)
    · exact Or.inr (if_neg q)
  | le =>
    by_cases q : x ≤ y
    · exact Or.inl (if_pos q)
    · exact Or.inr (if_neg q)
theorem at_ic (ih : am_S Pr ka kc) {cd : ClassFile.Cond} {tgt : Nat} (hk : aq_ic ka cd tgt pc lva sta ha c sl = some R) (hl : am_all am_q lva lv) (hs : am_all am_v sta st) (hh : am_h ha h) : ∃ r, pm_ic kc cd tgt pc lv st h c sl = some r ∧ Pr R r := by
  unfold aq_ic at hk
  split at hk
  · obtain ⟨y, st, rfl, hy, hs⟩ := av_i hs
    obtain ⟨x, st, rfl, hx, hs⟩ := av_i hs
    split at hk
    · rename_i hd
      obtain ⟨r, hr, hp⟩ := ih _ _ _ _ _ _ _ hk lv st h hl hs hh
      exact ⟨r, (am_dec_ok hd hx hy).trans hr, hp⟩
    · rename_i hd
      obtain ⟨r, hr, hp⟩ := ih _ _ _ _ _ _ _ hk lv st h hl hs hh
      exact ⟨r, (am_dec_ok hd hx hy).trans hr, hp⟩
    · split at hk
      · rename_i R1 R2 e1 e2
        split at hk
        · rename_i he
          cases hk
          have e := aeR_ok he
          rcases pm_ic_or (kc := kc) (pc := pc) (lv := lv) (st := st) (h := h) (c := c) (sl := sl) cd x y tgt with q | q
          · obtain ⟨r, hr, hp⟩ := ih _ _ _ _ _ _ _ e1 lv st h hl hs hh
            exact ⟨r, q.trans hr, hp⟩
          · obtain ⟨r, hr, hp⟩ := ih _ _ _ _ _ _ _ e2 lv st h hl hs hh
            exact ⟨r, q.trans hr, by rw [e]; exact hp⟩
        · cases hk
      · cases hk
  · cases hk
theorem at_if (ih : am_S Pr ka kc) {cd : ClassFile.Cond} {tgt : Nat} (hk : aq_if ka cd tgt pc lva sta ha c sl = some R) (hl : am_all am_q lva lv) (hs : am_all am_v sta st) (hh : am_h ha h) : ∃ r, pm_if kc cd tgt pc lv st h c sl = some r ∧ Pr R r := by
  obtain ⟨r, hr, hp⟩ := at_ic ih hk (st := .int 0 :: st) hl ⟨am_i.sg 0, hs⟩ hh
  refine ⟨r, ?_, hp⟩
  rw [← hr]
  unfold aq_if aq_ic at hk
  split at hk
  · rename_i y x rr he
    cases he
    obtain ⟨z, st, rfl, hz, hs⟩ := av_i hs
    cases cd <;> rfl
  · cases hk
theorem at_jump {t : Int} (ih : am_S Pr ka kc) (hk : aq_jump ka t lva sta ha c sl = some R) (hl : am_all am_q lva lv) (hs : am_all am_v sta st) (hh : am_h ha h) : ∃ r, pm_jump kc t lv st h c sl = some r ∧ Pr R r := by
  unfold aq_jump at hk
  split at hk
  · rename_i ht
    obtain ⟨r, hr, hp⟩ := ih _ _ _ _ _ _ _ hk lv st h hl hs hh
    exact ⟨r, (if_pos ht).trans hr, hp⟩
  · cases hk
theorem at_tsw (ih : am_S Pr ka kc) {d lo hi : Int} {offs : Array Int} (hk : aq_tsw ka d lo hi offs pc lva sta ha c sl = some R) (hl : am_all am_q lva lv) (hs : am_all am_v sta st) (hh : am_h ha h) : ∃ r, pm_tsw kc d lo hi offs pc lv st h c sl = some r ∧ Pr R r := by
  unfold aq_tsw at hk
  split at hk
  · rename_i ax rr
    obtain ⟨x, st, rfl, hx, hs⟩ := av_i hs
    have h1 := hx.1
    have h2 := hx.2
    split at hk
    · obtain ⟨r, hr, hp⟩ := at_jump ih hk hl hs hh
      exact ⟨r, (if_pos (by omega)).trans hr, hp⟩
    · split at hk
      · obtain ⟨r, hr, hp⟩ := at_jump ih hk hl hs hh
        refine ⟨r, ?_, hp⟩
        show (if x.toInt < lo then _ else if hi < x.toInt then _ else _) = some r
        by_cases hlo : x.toInt < lo
        · rw [if_pos hlo]; exact hr
        · rw [if_neg hlo, if_pos (by omega)]; exact hr
      · split at hk
        · rename_i he
          split at hk
          · rename_i off hoff
            obtain ⟨r, hr, hp⟩ := at_jump ih hk hl hs hh
            refine ⟨r, ?_, hp⟩
            show (if x.toInt < lo then _ else if hi < x.toInt then _ else _) = some r
            have e : x.toInt = ax.1 := by omega
            rw [if_neg (by omega), if_neg (by omega), e, hoff]
            exact hr
          · cases hk
        · cases hk
  · cases hk
theorem at_getf (ih : am_S Pr ka kc) {ci f : Nat} (hk : aq_getf ka ci f pc lva sta ha c sl = some R) (hl : am_all am_q lva lv) (hs : am_all am_v sta st) (hh : am_h ha h) : ∃ r, pm_getf kc ci f pc lv st h c sl = some r ∧ Pr R r := by
  unfold aq_getf at hk
  split at hk
  · obtain ⟨st, rfl, -, hs⟩ := av_r hs
    split at hk
    · rename_i cj fs hcell
      obtain ⟨D, hD, hc⟩ := am_cell_ok hh hcell
      obtain ⟨m, rfl, hm⟩ := ac_o hc
      split at hk
      · rename_i hcj
        split at hk
        · rename_i v hv
          obtain ⟨w, hw, hvw⟩ := am_all.get hm hv
          obtain ⟨r, hr, hp⟩ := ih _ _ _ _ _ _ _ hk lv (w :: st) h hl ⟨hvw, hs⟩ hh
          refine ⟨r, ?_, hp⟩
          unfold pm_getf
          dsimp only
          rw [hD]
          dsimp only
          rw [if_pos hcj, hw]
          exact hr
        · cases hk
      · cases hk
    · cases hk
  · cases hk
theorem at_putf (ih : am_S Pr ka kc) {ci f : Nat} (hk : aq_putf ka ci f pc lva sta ha c sl = some R) (hl : am_all am_q lva lv) (hs : am_all am_v sta st) (hh : am_h ha h) : ∃ r, pm_putf kc ci f pc lv st h c sl = some r ∧ Pr R r := by
  unfold aq_putf at hk
  split at hk
  · rename_i v a rr
    obtain ⟨w, st, rfl, hw, hs⟩ := av_c hs
    obtain ⟨st, rfl, -, hs⟩ := av_r hs
    split at hk
    · rename_i cj fs hcell
      obtain ⟨D, hD, hc⟩ := am_cell_ok hh hcell
      obtain ⟨m, rfl, hm⟩ := ac_o hc
      split at hk
      · rename_i hcj
        split at hk
        · rename_i hfl
          split at hk
          · rename_i hfit
            obtain ⟨r, hr, hp⟩ := ih _ _ _ _ _ _ _ hk lv st (h.set (a - 8) (.inr (.inr (.inr (ci, m.set f w))))) hl hs (am_hset hh hcell ⟨rfl, am_all.set hm hw⟩)
            refine ⟨r, ?_, hp⟩
            unfold pm_putf
            dsimp only
            rw [hD]
            dsimp only
            rw [if_pos hcj, if_pos (by rw [← hm.len]; exact hfl), am_fit_ok hfit hw]
            exact hr
          · cases hk
        · cases hk
      · cases hk
    · cases hk
  · cases hk
theorem at_iald (ih : am_S Pr ka kc) {xa : List am_I} {xs : List Int32} (hxs : am_all am_i xa xs) (hk : aq_iald ka xa pc lva sta ha c sl = some R) (hl : am_all am_q lva lv) (hs : am_all am_v sta st) (hh : am_h ha h) : ∃ r, pm_iald kc xs pc lv st h c sl = some r ∧ Pr R r := by
  unfold aq_iald at hk
  split at hk
  · rename_i ia a rr
    obtain ⟨i, st, rfl, hi, hs⟩ := av_i hs
    obtain ⟨st, rfl, -, hs⟩ := av_r hs
    split at hk
    · rename_i n hn
      obtain ⟨h0, rfl⟩ := am_ix_ok hn hi
      split at hk
      · rename_i ha0
        split at hk
        · rename_i x hx
          obtain ⟨w, hw, hvw⟩ := am_all.get hxs hx
          obtain ⟨r, hr, hp⟩ := ih _ _ _ _ _ _ _ hk lv (.int w :: st) h hl ⟨hvw, hs⟩ hh
          refine ⟨r, ?_, hp⟩
          unfold pm_iald
          dsimp only
          rw [if_neg h0, if_pos ha0, hw]
          exact hr
        · cases hk
      · rename_i ha0
        split at hk
        · rename_i t l hcell
          obtain ⟨D, hD, hc⟩ := am_cell_ok hh hcell
          obtain ⟨m, rfl, hm⟩ := ac_i hc
          split at hk
          · rename_i ht
            split at hk
            · rename_i x hx
              obtain ⟨w, hw, hvw⟩ := am_all.get hm hx
              obtain ⟨r, hr, hp⟩ := ih _ _ _ _ _ _ _ hk lv (.int w :: st) h hl ⟨hvw, hs⟩ hh
              refine ⟨r, ?_, hp⟩
              unfold pm_iald
              dsimp only
              rw [if_neg h0, if_neg ha0, hD]
              dsimp only
              rw [if_pos ht, hw]
              exact hr
            · cases hk
          · cases hk
        · cases hk
    · cases hk
  · cases hk
theorem at_bald (ih : am_S Pr ka kc)  (hk : aq_bald ka pc lva sta ha c sl = some R) (hl : am_all am_q lva lv) (hs : am_all am_v sta st) (hh : am_h ha h) : ∃ r, pm_bald kc pc lv st h c sl = some r ∧ Pr R r := by
  unfold aq_bald at hk
  split at hk
  · rename_i ia a rr
    obtain ⟨i, st, rfl, hi, hs⟩ := av_i hs
    obtain ⟨st, rfl, -, hs⟩ := av_r hs
    split at hk
    · rename_i n hn
      obtain ⟨h0, rfl⟩ := am_ix_ok hn hi
      split at hk
      · rename_i t l hcell
        obtain ⟨D, hD, hc⟩ := am_cell_ok hh hcell
        obtain ⟨m, rfl, hm⟩ := ac_i hc
        split at hk
        · rename_i ht
          split at hk
          · rename_i x hx
            obtain ⟨w, hw, hvw⟩ := am_all.get hm hx
            obtain ⟨r, hr, hp⟩ := ih _ _ _ _ _ _ _ hk lv (.int w :: st) h hl ⟨hvw, hs⟩ hh
            refine ⟨r, ?_, hp⟩
            unfold pm_bald
            dsimp only
            rw [if_neg h0, hD]
            dsimp only
            rw [if_pos ht, hw]
            exact hr
          · cases hk
        · cases hk
      · cases hk
    · cases hk
  · cases hk
theorem at_lald (ih : am_S Pr ka kc)  (hk : aq_lald ka pc lva sta ha c sl = some R) (hl : am_all am_q lva lv) (hs : am_all am_v sta st) (hh : am_h ha h) : ∃ r, pm_lald kc pc lv st h c sl = some r ∧ Pr R r := by
  unfold aq_lald at hk
  split at hk
  · rename_i ia a rr
    obtain ⟨i, st, rfl, hi, hs⟩ := av_i hs
    obtain ⟨st, rfl, -, hs⟩ := av_r hs
    split at hk
    · rename_i n hn
      obtain ⟨h0, rfl⟩ := am_ix_ok hn hi
      split at hk
      · rename_i t l hcell
        obtain ⟨D, hD, hc⟩ := am_cell_ok hh hcell
        obtain ⟨m, rfl, hm⟩ := ac_l hc
        split at hk
        · rename_i ht
          split at hk
          · rename_i x hx
            obtain ⟨w, hw, hvw⟩ := am_all.get hm hx
            obtain ⟨r, hr, hp⟩ := ih _ _ _ _ _ _ _ hk lv (.long w :: st) h hl ⟨hvw, hs⟩ hh
            refine ⟨r, ?_, hp⟩
            unfold pm_lald
            dsimp only
            rw [if_neg h0, hD]
            dsimp only
            rw [if_pos ht, hw]
            exact hr
          · cases hk
        · cases hk
      · cases hk
    · cases hk
  · cases hk
theorem at_aald (ih : am_S Pr ka kc)  (hk : aq_aald ka pc lva sta ha c sl = some R) (hl : am_all am_q lva lv) (hs : am_all am_v sta st) (hh : am_h ha h) : ∃ r, pm_aald kc pc lv st h c sl = some r ∧ Pr R r := by
  unfold aq_aald at hk
  split at hk
  · rename_i ia a rr
    obtain ⟨i, st, rfl, hi, hs⟩ := av_i hs
    obtain ⟨st, rfl, -, hs⟩ := av_r hs
    split at hk
    · rename_i n hn
      obtain ⟨h0, rfl⟩ := am_ix_ok hn hi
      split at hk
      · rename_i t l hcell
        obtain ⟨D, hD, hc⟩ := am_cell_ok hh hcell
        obtain rfl := ac_r hc
        split at hk
        · rename_i ht
          split at hk
          · rename_i x hx
            obtain ⟨r, hr, hp⟩ := ih _ _ _ _ _ _ _ hk lv (.ref x :: st) h hl ⟨rfl, hs⟩ hh
            refine ⟨r, ?_, hp⟩
            unfold pm_aald
            dsimp only
            rw [if_neg h0, hD]
            dsimp only
            rw [if_pos ht, hx]
            exact hr
          · cases hk
        · cases hk
      · cases hk
    · cases hk
  · cases hk
theorem at_iast (ih : am_S Pr ka kc)  (hk : aq_iast ka pc lva sta ha c sl = some R) (hl : am_all am_q lva lv) (hs : am_all am_v sta st) (hh : am_h ha h) : ∃ r, pm_iast kc pc lv st h c sl = some r ∧ Pr R r := by
  unfold aq_iast at hk
  split at hk
  · rename_i xa ia a rr
    obtain ⟨x, st, rfl, hx, hs⟩ := av_i hs
    obtain ⟨i, st, rfl, hi, hs⟩ := av_i hs
    obtain ⟨st, rfl, -, hs⟩ := av_r hs
    split at hk
    · rename_i n hn
      obtain ⟨h0, rfl⟩ := am_ix_ok hn hi
      split at hk
      · rename_i t l hcell
        obtain ⟨D, hD, hc⟩ := am_cell_ok hh hcell
        obtain ⟨m, rfl, hm⟩ := ac_i hc
        split at hk
        · rename_i ht
          split at hk
          · rename_i hlt
            obtain ⟨r, hr, hp⟩ := ih _ _ _ _ _ _ _ hk lv st (h.set (a - 8) (.inl (0, m.set i.toNatClampNeg x))) hl hs (am_hset hh hcell ⟨rfl, am_all.set hm hx⟩)
            refine ⟨r, ?_, hp⟩
            unfold pm_iast
            dsimp only
            rw [if_neg h0, hD]
            dsimp only
            rw [if_pos ht, if_pos (by rw [← hm.len]; exact hlt)]
            exact hr
          · cases hk
        · cases hk
      · cases hk
    · cases hk
  · cases hk
theorem at_last (ih : am_S Pr ka kc)  (hk : aq_last ka pc lva sta ha c sl = some R) (hl : am_all am_q lva lv) (hs : am_all am_v sta st) (hh : am_h ha h) : ∃ r, pm_last kc pc lv st h c sl = some r ∧ Pr R r := by
  unfold aq_last at hk
  split at hk
  · rename_i xa ia a rr
    obtain ⟨x, st, rfl, hx, hs⟩ := av_l hs
    obtain ⟨i, st, rfl, hi, hs⟩ := av_i hs
    obtain ⟨st, rfl, -, hs⟩ := av_r hs
    split at hk
    · rename_i n hn
      obtain ⟨h0, rfl⟩ := am_ix_ok hn hi
      split at hk
      · rename_i t l hcell
        obtain ⟨D, hD, hc⟩ := am_cell_ok hh hcell
        obtain ⟨m, rfl, hm⟩ := ac_l hc
        split at hk
        · rename_i ht
          split at hk
          · rename_i hlt
            obtain ⟨r, hr, hp⟩ := ih _ _ _ _ _ _ _ hk lv st (h.set (a - 8) (.inr (.inl (3, m.set i.toNatClampNeg x)))) hl hs (am_hset hh hcell ⟨rfl, am_all.set hm hx⟩)
            refine ⟨r, ?_, hp⟩
            unfold pm_last
            dsimp only
            rw [if_neg h0, hD]
            dsimp only
            rw [if_pos ht, if_pos (by rw [← hm.len]; exact hlt)]
            exact hr
          · cases hk
        · cases hk
      · cases hk
    · cases hk
  · cases hk
theorem at_bast (ih : am_S Pr ka kc)  (hk : aq_bast ka pc lva sta ha c sl = some R) (hl : am_all am_q lva lv) (hs : am_all am_v sta st) (hh : am_h ha h) : ∃ r, pm_bast kc pc lv st h c sl = some r ∧ Pr R r := by
  unfold aq_bast at hk
  split at hk
  · rename_i xa ia a rr
    obtain ⟨x, st, rfl, hx, hs⟩ := av_i hs
    obtain ⟨i, st, rfl, hi, hs⟩ := av_i hs
    obtain ⟨st, rfl, -, hs⟩ := av_r hs
    split at hk
    · rename_i n hn
      obtain ⟨h0, rfl⟩ := am_ix_ok hn hi
      split at hk
      · rename_i t l hcell
        obtain ⟨D, hD, hc⟩ := am_cell_ok hh hcell
        obtain ⟨m, rfl, hm⟩ := ac_i hc
        split at hk
        · rename_i ht
          split at hk
          · rename_i hlt
            obtain ⟨r, hr, hp⟩ := ih _ _ _ _ _ _ _ hk lv st (h.set (a - 8) (.inl (1, m.set i.toNatClampNeg x.toInt8.toInt32))) hl hs (am_hset hh hcell ⟨rfl, am_all.set hm (am_u_ok (fun x => x.toInt8.toInt32) hx)⟩)
            refine ⟨r, ?_, hp⟩
            unfold pm_bast
            dsimp only
            rw [if_neg h0, hD]
            dsimp only
            rw [if_pos ht, if_pos (by rw [← hm.len]; exact hlt)]
            exact hr
          · cases hk
        · rename_i ht
          split at hk
          · rename_i ht2
            split at hk
            · rename_i hlt
              obtain ⟨r, hr, hp⟩ := ih _ _ _ _ _ _ _ hk lv st (h.set (a - 8) (.inl (2, m.set i.toNatClampNeg (x &&& 1)))) hl hs (am_hset hh hcell ⟨rfl, am_all.set hm (am_u_ok (fun x => x &&& 1) hx)⟩)
              refine ⟨r, ?_, hp⟩
              unfold pm_bast
              dsimp only
              rw [if_neg h0, hD]
              dsimp only
              rw [if_neg ht, if_pos ht2, if_pos (by rw [← hm.len]; exact hlt)]
              exact hr
            · cases hk
          · cases hk
      · cases hk
    · cases hk
  · cases hk
theorem at_aast (ih : am_S Pr ka kc)  (hk : aq_aast ka pc lva sta ha c sl = some R) (hl : am_all am_q lva lv) (hs : am_all am_v sta st) (hh : am_h ha h) : ∃ r, pm_aast kc pc lv st h c sl = some r ∧ Pr R r := by
  unfold aq_aast at hk
  split at hk
  · rename_i v ia a rr
    obtain ⟨st, rfl, -, hs⟩ := av_r hs
    obtain ⟨i, st, rfl, hi, hs⟩ := av_i hs
    obtain ⟨st, rfl, -, hs⟩ := av_r hs
    split at hk
    · rename_i n hn
      obtain ⟨h0, rfl⟩ := am_ix_ok hn hi
      split at hk
      · rename_i t l hcell
        obtain ⟨D, hD, hc⟩ := am_cell_ok hh hcell
        obtain rfl := ac_r hc
        split at hk
        · rename_i cj fs hcv
          obtain ⟨E, hE, hce⟩ := am_cell_ok hh hcv
          obtain ⟨m, rfl, hm⟩ := ac_o hce
          split at hk
          · rename_i ht
            split at hk
            · rename_i hcj
              split at hk
              · rename_i hlt
                obtain ⟨r, hr, hp⟩ := ih _ _ _ _ _ _ _ hk lv st (h.set (a - 8) (.inr (.inr (.inl (t, l.set i.toNatClampNeg (some v)))))) hl hs (am_hset hh hcell ⟨rfl, rfl⟩)
                refine ⟨r, ?_, hp⟩
                unfold pm_aast
                dsimp only
                rw [if_neg h0, hD, hE]
                dsimp only
                rw [if_pos ht, if_pos hcj, if_pos hlt]
                exact hr
              · cases hk
            · cases hk
          · cases hk
        · cases hk
      · cases hk
    · cases hk
  · cases hk
theorem at_alen (ih : am_S Pr ka kc) {xa : List am_I} {xs : List Int32} (hxs : am_all am_i xa xs) (hk : aq_alen ka xa pc lva sta ha c sl = some R) (hl : am_all am_q lva lv) (hs : am_all am_v sta st) (hh : am_h ha h) : ∃ r, pm_alen kc xs pc lv st h c sl = some r ∧ Pr R r := by
  unfold aq_alen at hk
  split at hk
  · rename_i a rr
    obtain ⟨st, rfl, -, hs⟩ := av_r hs
    split at hk
    · rename_i ha0
      obtain ⟨r, hr, hp⟩ := ih _ _ _ _ _ _ _ hk lv (.int (Int32.ofNat xs.length) :: st) h hl ⟨by rw [hxs.len]; exact am_i.sg _, hs⟩ hh
      exact ⟨r, (if_pos ha0).trans hr, hp⟩
    · rename_i ha0
      split at hk
      · rename_i t l hcell
        obtain ⟨D, hD, hc⟩ := am_cell_ok hh hcell
        obtain ⟨m, rfl, hm⟩ := ac_i hc
        split at hk
        · rename_i ht
          obtain ⟨r, hr, hp⟩ := ih _ _ _ _ _ _ _ hk lv (.int (Int32.ofNat m.length) :: st) h hl ⟨by rw [hm.len]; exact am_i.sg _, hs⟩ hh
          refine ⟨r, ?_, hp⟩
          unfold pm_alen
          dsimp only
          rw [if_neg ha0, hD]
          dsimp only
          rw [if_pos ht]
          exact hr
        · cases hk
      · cases hk
  · cases hk
theorem am_z_ok (ci : Nat) : am_all am_v (am_z ci) (kZ ci) := by
  unfold am_z kZ
  split <;> simp [am_all, am_v, am_i]
theorem at_new (ih : am_S Pr ka kc) {mm : pm_M} {ci : Nat} (hk : aq_new ka mm ci pc lva sta ha c sl = some R) (hl : am_all am_q lva lv) (hs : am_all am_v sta st) (hh : am_h ha h) : ∃ r, pm_new kc mm ci pc lv st h c sl = some r ∧ Pr R r := by
  unfold aq_new at hk
  split at hk
  · rename_i h1
    split at hk
    · rename_i h2
      split at hk
      · rename_i hq hps
        obtain ⟨r, hr, hp⟩ := ih _ _ _ _ _ _ _ hk lv (.ref (8 + h.length) :: st) (h ++ [.inr (.inr (.inr (ci, kZ ci)))]) hl ⟨by show 8 + ha.1 = 8 + h.length; rw [hh.1], hs⟩ (am_push (D := .inr (.inr (.inr (ci, kZ ci)))) hh hps ⟨rfl, am_z_ok ci⟩)
        exact ⟨r, (if_pos h1).trans ((if_pos h2).trans hr), hp⟩
      · cases hk
    · cases hk
  · cases hk
theorem at_newa (ih : am_S Pr ka kc) {mm : pm_M} {at_ : ArrayType} (hk : aq_newa ka mm at_ pc lva sta ha c sl = some R) (hl : am_all am_q lva lv) (hs : am_all am_v sta st) (hh : am_h ha h) : ∃ r, pm_newa kc mm at_ pc lv st h c sl = some r ∧ Pr R r := by
  unfold aq_newa at hk
  split at hk
  · obtain ⟨n, st, rfl, hn, hs⟩ := av_i hs
    split at hk
    · rename_i na hna
      obtain ⟨h0, rfl⟩ := am_ix_ok hna hn
      split at hk
      · rename_i hN
        split at hk
        · rename_i h1
          split at hk
          · rename_i h2
            split at hk
            · split at hk
              · rename_i hq hps
                obtain ⟨r, hr, hp⟩ := ih _ _ _ _ _ _ _ hk lv (.ref (8 + h.length) :: st) (h ++ [.inl (0, List.replicate n.toNatClampNeg 0)]) hl ⟨by show 8 + ha.1 = 8 + h.length; rw [hh.1], hs⟩ (am_push (D := .inl (0, List.replicate n.toNatClampNeg 0)) hh hps ⟨rfl, am_all.rep (R := am_i) (am_i.sg 0) _⟩)
                exact ⟨r, (if_neg h0).trans ((if_pos hN).trans ((if_pos h1).trans ((if_pos h2).trans hr))), hp⟩
              · cases hk
            · split at hk
              · rename_i hq hps
                obtain ⟨r, hr, hp⟩ := ih _ _ _ _ _ _ _ hk lv (.ref (8 + h.length) :: st) (h ++ [.inl (1, List.replicate n.toNatClampNeg 0)]) hl ⟨by show 8 + ha.1 = 8 + h.length; rw [hh.1], hs⟩ (am_push (D := .inl (1, List.replicate n.toNatClampNeg 0)) hh hps ⟨rfl, am_all.rep (R := am_i) (am_i.sg 0) _⟩)
                exact ⟨r, (if_neg h0).trans ((if_pos hN).trans ((if_pos h1).trans ((if_pos h2).trans hr))), hp⟩
              · cases hk
            · split at hk
              · rename_i hq hps
                obtain ⟨r, hr, hp⟩ := ih _ _ _ _ _ _ _ hk lv (.ref (8 + h.length) :: st) (h ++ [.inl (2, List.replicate n.toNatClampNeg 0)]) hl ⟨by show 8 + ha.1 = 8 + h.length; rw [hh.1], hs⟩ (am_push (D := .inl (2, List.replicate n.toNatClampNeg 0)) hh hps ⟨rfl, am_all.rep (R := am_i) (am_i.sg 0) _⟩)
                exact ⟨r, (if_neg h0).trans ((if_pos hN).trans ((if_pos h1).trans ((if_pos h2).trans hr))), hp⟩
              · cases hk
            · split at hk
              · rename_i hq hps
                obtain ⟨r, hr, hp⟩ := ih _ _ _ _ _ _ _ hk lv (.ref (8 + h.length) :: st) (h ++ [.inr (.inl (3, List.replicate n.toNatClampNeg 0))]) hl ⟨by show 8 + ha.1 = 8 + h.length; rw [hh.1], hs⟩ (am_push (D := .inr (.inl (3, List.replicate n.toNatClampNeg 0))) hh hps ⟨rfl, am_all.rep (R := am_l) (am_l.sg 0) _⟩)
                exact ⟨r, (if_neg h0).trans ((if_pos hN).trans ((if_pos h1).trans ((if_pos h2).trans hr))), hp⟩
              · cases hk
            · cases hk
          · cases hk
        · cases hk
      · cases hk
    · cases hk
  · cases hk
theorem at_anew (ih : am_S Pr ka kc) {mm : pm_M} {t : Nat} (hk : aq_anew ka mm t pc lva sta ha c sl = some R) (hl : am_all am_q lva lv) (hs : am_all am_v sta st) (hh : am_h ha h) : ∃ r, pm_anew kc mm t pc lv st h c sl = some r ∧ Pr R r := by
  unfold aq_anew at hk
  split at hk
  · obtain ⟨n, st, rfl, hn, hs⟩ := av_i hs
    split at hk
    · rename_i na hna
      obtain ⟨h0, rfl⟩ := am_ix_ok hna hn
      split at hk
      · rename_i hN
        split at hk
        · rename_i h1
          split at hk
          · rename_i h2
            split at hk
            · rename_i hq hps
              obtain ⟨r, hr, hp⟩ := ih _ _ _ _ _ _ _ hk lv (.ref (8 + h.length) :: st) (h ++ [.inr (.inr (.inl (t, List.replicate n.toNatClampNeg none)))]) hl ⟨by show 8 + ha.1 = 8 + h.length; rw [hh.1], hs⟩ (am_push (D := .inr (.inr (.inl (t, List.replicate n.toNatClampNeg none)))) hh hps ⟨rfl, rfl⟩)
              exact ⟨r, (if_neg h0).trans ((if_pos hN).trans ((if_pos h1).trans ((if_pos h2).trans hr))), hp⟩
            · cases hk
          · cases hk
        · cases hk
      · cases hk
    · cases hk
  · cases hk
theorem am_cpy_ok {α β : Type} {Rl : α → β → Prop} {fa ga : List α} {f g : List β} (hf : am_all Rl fa f) (hg : am_all Rl ga g) (sp dp n : Nat) : am_all Rl (pm_cpy fa ga sp dp n) (pm_cpy f g sp dp n) := (hg.take dp).app (((hf.drop sp).take n).app (hg.drop (dp + n)))
theorem at_copy (ih : am_S Pr ka kc)  (hk : aq_copy ka pc lva sta ha c sl = some R) (hl : am_all am_q lva lv) (hs : am_all am_v sta st) (hh : am_h ha h) : ∃ r, pm_copy kc pc lv st h c sl = some r ∧ Pr R r := by
  unfold aq_copy at hk
  split at hk
  · rename_i na da a sa b
    obtain ⟨n, st, rfl, hn, hs⟩ := av_i hs
    obtain ⟨dp, st, rfl, hdp, hs⟩ := av_i hs
    obtain ⟨st, rfl, -, hs⟩ := av_r hs
    obtain ⟨sp, st, rfl, hsp, hs⟩ := av_i hs
    obtain ⟨st, rfl, -, hs⟩ := av_r hs
    obtain rfl := av_n hs
    split at hk
    · rename_i n1 d1 s1 e1 e2 e3
      obtain ⟨n0, rfl⟩ := am_ix_ok e1 hn
      obtain ⟨d0, rfl⟩ := am_ix_ok e2 hdp
      obtain ⟨s0, rfl⟩ := am_ix_ok e3 hsp
      split at hk
      · rename_i t g u f hca hcb
        obtain ⟨D, hD, hc⟩ := am_cell_ok hh hca
        obtain ⟨gm, rfl, hgm⟩ := ac_i hc
        obtain ⟨E, hE, hce⟩ := am_cell_ok hh hcb
        obtain ⟨fm, rfl, hfm⟩ := ac_i hce
        split at hk
        · rename_i htu
          split at hk
          · rename_i h4
            split at hk
            · rename_i h5
              obtain ⟨r, hr, hp⟩ := ih _ _ _ _ _ _ _ hk lv [] (h.set (a - 8) (.inl (0, pm_cpy fm gm sp.toNatClampNeg dp.toNatClampNeg n.toNatClampNeg))) hl trivial (am_hset hh hca ⟨rfl, am_cpy_ok hfm hgm _ _ _⟩)
              refine ⟨r, ?_, hp⟩
              unfold pm_copy
              dsimp only
              rw [if_neg s0, if_neg d0, if_neg n0, hD, hE]
              dsimp only
              rw [if_pos htu, if_pos (by rw [← hfm.len]; exact h4), if_pos (by rw [← hgm.len]; exact h5)]
              exact hr
            · cases hk
          · cases hk
        · cases hk
      · cases hk
    · cases hk
  · cases hk
theorem at_call (ih : am_S Pr ka kc) {ba : Nat → List am_V → am_H → am_R} {bc : Nat → List Value → pm_H → pm_R} (hbig : ∀ M2 as h Ra, ba M2 as h = some Ra → ∀ cs hc, am_all am_v as cs → am_h h hc → ∃ r, bc M2 cs hc = some r ∧ am_r Ra r) {mm : pm_M} {M2 : Nat} {m2 : pm_M} {as rest : List am_V} {cs crest : List Value} (hk : aq_call ka ba mm m2 M2 pc lva as rest ha c sl = some R) (hl : am_all am_q lva lv) (ha1 : am_all am_v as cs) (hs : am_all am_v rest crest) (hh : am_h ha h) : ∃ r, pm_call kc bc mm m2 M2 pc lv cs crest h c sl = some r ∧ Pr R r := by
  unfold aq_call at hk
  split at hk
  · rename_i h1
    split at hk
    · rename_i h2
      split at hk
      · rename_i h3
        split at hk
        · rename_i ra hra hb
          obtain ⟨⟨v, hv⟩, hr0, hro, hrh⟩ := hbig _ _ _ _ hb _ _ ha1 hh
          obtain ⟨r, hr, hp⟩ := ih _ _ _ _ _ _ _ hk lv (v.toList ++ crest) hv hl (am_all.app (by
            match ra, v, hro with
            | none, none, _ => exact trivial
            | some a, some v, hro => exact ⟨hro, trivial⟩) hs) hrh
          refine ⟨r, ?_, hp⟩
          unfold pm_call
          rw [if_pos (by rw [← am_all.sum (fun a b h => am_v.cat h) hs]; exact h1), if_pos h2, if_pos h3, hr0]
          exact hr
        · cases hk
      · cases hk
    · cases hk
  · cases hk
theorem at_inv (ih : am_S Pr ka kc) {tab : Nat → Option pm_M} {ba : Nat → List am_V → am_H → am_R} {bc : Nat → List Value → pm_H → pm_R} (hbig : ∀ M2 as h Ra, ba M2 as h = some Ra → ∀ cs hc, am_all am_v as cs → am_h h hc → ∃ r, bc M2 cs hc = some r ∧ am_r Ra r) {mm : pm_M} {M2 : Nat} (hk : aq_inv ka tab ba mm M2 pc lva sta ha c sl = some R) (hl : am_all am_q lva lv) (hs : am_all am_v sta st) (hh : am_h ha h) : ∃ r, pm_inv kc tab bc mm M2 pc lv st h c sl = some r ∧ Pr R r := by
  unfold aq_inv at hk
  unfold pm_inv
  split at hk
  · cases hk
  · rename_i m2 hm2
    split at hk
    · rename_i hn
      split at hk
      · rename_i a as hrev
        have hrv : am_all am_v (.inr (.inr (some a)) :: as) ((st.take (pm_n m2)).reverse) := by rw [← hrev]; exact (hs.take _).rev
        obtain ⟨cs, hcs, -, hcr⟩ := av_r hrv
        split at hk
        · rename_i cj fs hcell
          obtain ⟨D, hD, hc⟩ := am_cell_ok hh hcell
          obtain ⟨m, rfl, hm⟩ := ac_o hc
          split at hk
          · rename_i hcj
            obtain ⟨r, hr, hp⟩ := at_call ih hbig hk (cs := .ref a :: cs) hl ⟨rfl, hcr⟩ (hs.drop _) hh
            refine ⟨r, ?_, hp⟩
            rw [hm2]
            dsimp only
            rw [if_pos (by rw [← hs.len]; exact hn), hcs]
            dsimp only
            rw [hD]
            dsimp only
            rw [if_pos hcj]
            exact hr
          · cases hk
        · cases hk
      · cases hk
    · cases hk
theorem at_ins (ih : am_S Pr ka kc) {tab : Nat → Option pm_M} {ba : Nat → List am_V → am_H → am_R} {bc : Nat → List Value → pm_H → pm_R} (hbig : ∀ M2 as h Ra, ba M2 as h = some Ra → ∀ cs hc, am_all am_v as cs → am_h h hc → ∃ r, bc M2 cs hc = some r ∧ am_r Ra r) {mm : pm_M} {M2 : Nat} (hk : aq_ins ka tab ba mm M2 pc lva sta ha c sl = some R) (hl : am_all am_q lva lv) (hs : am_all am_v sta st) (hh : am_h ha h) : ∃ r, pm_ins kc tab bc mm M2 pc lv st h c sl = some r ∧ Pr R r := by
  unfold aq_ins at hk
  unfold pm_ins
  split at hk
  · cases hk
  · rename_i m2 hm2
    split at hk
    · rename_i hn
      obtain ⟨r, hr, hp⟩ := at_call ih hbig hk hl (hs.take _).rev (hs.drop _) hh
      refine ⟨r, ?_, hp⟩
      rw [hm2]
      dsimp only
      rw [if_pos (by rw [← hs.len]; exact hn)]
      exact hr
    · cases hk
theorem at_obj (ih : am_S Pr ka kc)  (hk : aq_obj ka pc lva sta ha c sl = some R) (hl : am_all am_q lva lv) (hs : am_all am_v sta st) (hh : am_h ha h) : ∃ r, pm_obj kc pc lv st h c sl = some r ∧ Pr R r := by
  unfold aq_obj at hk
  split at hk
  · obtain ⟨st, rfl, -, hs⟩ := av_r hs
    obtain rfl := av_n hs
    exact ih _ _ _ _ _ _ _ hk lv [] h hl trivial hh
  · cases hk
theorem at_ret {mm : pm_M} (hPr : ∀ R r, am_r R r → Pr R r) (hk : aq_ret mm sta ha = some R) (hs : am_all am_v sta st) (hh : am_h ha h) : ∃ r, pm_ret mm st h = some r ∧ Pr R r := by
  unfold aq_ret at hk
  split at hk
  · rename_i v ty hty
    obtain ⟨x, st, rfl, hx, hs⟩ := av_i hs
    obtain rfl := av_n hs
    split at hk
    · rename_i hfit
      cases hk
      refine ⟨(some (.int x), h), ?_, hPr _ _ ⟨hx, hh⟩⟩
      unfold pm_ret
      rw [hty]
      dsimp only
      rw [am_fit_ok (v := .int x) hfit hx]
    · cases hk
  · cases hk
theorem at_retl {mm : pm_M} (hPr : ∀ R r, am_r R r → Pr R r) (hk : aq_retl mm sta ha = some R) (hs : am_all am_v sta st) (hh : am_h ha h) : ∃ r, pm_retl mm st h = some r ∧ Pr R r := by
  unfold aq_retl at hk
  split at hk
  · rename_i v hty
    obtain ⟨x, st, rfl, hx, hs⟩ := av_l hs
    obtain rfl := av_n hs
    cases hk
    refine ⟨(some (.long x), h), ?_, hPr _ _ ⟨hx, hh⟩⟩
    unfold pm_retl
    rw [hty]
  · cases hk
theorem at_reta {mm : pm_M} (hPr : ∀ R r, am_r R r → Pr R r) (hk : aq_reta mm sta ha = some R) (hs : am_all am_v sta st) (hh : am_h ha h) : ∃ r, pm_reta mm st h = some r ∧ Pr R r := by
  unfold aq_reta at hk
  split at hk
  · rename_i v nm hty
    obtain ⟨st, rfl, -, hs⟩ := av_r hs
    obtain rfl := av_n hs
    cases hk
    refine ⟨(some (.ref v), h), ?_, hPr _ _ ⟨rfl, hh⟩⟩
    unfold pm_reta
    rw [hty]
  · cases hk
theorem at_retv {mm : pm_M} (hPr : ∀ R r, am_r R r → Pr R r) (hk : aq_retv mm sta ha = some R) (hs : am_all am_v sta st) (hh : am_h ha h) : ∃ r, pm_retv mm st h = some r ∧ Pr R r := by
  unfold aq_retv at hk
  split at hk
  · rename_i hty
    obtain rfl := av_n hs
    cases hk
    refine ⟨(none, h), ?_, hPr _ _ ⟨trivial, hh⟩⟩
    unfold pm_retv
    rw [hty]
  · cases hk
end Sim
end
section
/-! THE INTERVAL MACHINE is sound: a step, a frame, a call of any depth. -/
section SimStep
variable {Pr : Option am_V × am_H → Option Value × pm_H → Prop} {ka : am_K} {kc : pm_K} {pc : Nat} {lva : am_L} {sta : List am_V} {ha : am_H} {c sl : Nat} {R : Option am_V × am_H} {lv : pm_L} {st : List Value} {h : pm_H} {xa : List am_I} {xs : List Int32} {tab : Nat → Option pm_M} {ba : Nat → List am_V → am_H → am_R} {bc : Nat → List Value → pm_H → pm_R} {mm : pm_M}
set_option maxHeartbeats 4000000 in
theorem at_step (hxs : am_all am_i xa xs) (ih : am_S Pr ka kc) (hPr : ∀ R r, am_r R r → Pr R r) (hbig : ∀ M2 as h Ra, ba M2 as h = some Ra → ∀ cs hc, am_all am_v as cs → am_h h hc → ∃ r, bc M2 cs hc = some r ∧ am_r Ra r) {ee : pm_E} (hk : am_step xa tab ba mm ka ee pc lva sta ha c sl = some R) (hl : am_all am_q lva lv) (hs : am_all am_v sta st) (hh : am_h ha h) : ∃ r, pm_step xs tab bc mm kc ee pc lv st h c sl = some r ∧ Pr R r := by
  obtain ⟨i, a, b, z⟩ := ee
  cases i with
  | iconst n => exact ih _ _ _ _ _ _ _ hk _ _ _ hl ⟨am_i.sg _, hs⟩ hh
  | bipush n => exact ih _ _ _ _ _ _ _ hk _ _ _ hl ⟨am_i.sg _, hs⟩ hh
  | sipush n => exact ih _ _ _ _ _ _ _ hk _ _ _ hl ⟨am_i.sg _, hs⟩ hh
  | lconst n => exact ih _ _ _ _ _ _ _ hk _ _ _ hl ⟨am_l.sg _, hs⟩ hh
  | ldc2_w ix => exact ih _ _ _ _ _ _ _ hk _ _ _ hl ⟨am_l.sg _, hs⟩ hh
  | goto off => exact ih _ _ _ _ _ _ _ hk _ _ _ hl hs hh
  | iload_n i => exact at_ldi ih hk hl hs hh
  | istore_n i => exact at_sti ih hk hl hs hh
  | iload i => exact at_ldi ih hk hl hs hh
  | istore i => exact at_sti ih hk hl hs hh
  | lload_n i => exact at_ldl ih hk hl hs hh
  | lstore_n i => exact at_stl ih hk hl hs hh
  | lload i => exact at_ldl ih hk hl hs hh
  | lstore i => exact at_stl ih hk hl hs hh
  | aload_n i => exact at_lda ih hk hl hs hh
  | astore_n i => exact at_sta ih hk hl hs hh
  | aload i => exact at_lda ih hk hl hs hh
  | astore i => exact at_sta ih hk hl hs hh
  | iinc i n => exact at_iinc ih hk hl hs hh
  | imul => exact at_bi ih (fa := am_b (fun x y => x * y)) (f := fun x y => x * y) (fun _ _ _ _ hx hy => am_b_ok (fun x y => x * y) hx hy) hk hl hs hh
  | ior => exact at_bi ih (fa := am_b (fun x y => x ||| y)) (f := fun x y => x ||| y) (fun _ _ _ _ hx hy => am_b_ok (fun x y => x ||| y) hx hy) hk hl hs hh
  | ixor => exact at_bi ih (fa := am_b (fun x y => x ^^^ y)) (f := fun x y => x ^^^ y) (fun _ _ _ _ hx hy => am_b_ok (fun x y => x ^^^ y) hx hy) hk hl hs hh
  | ishl => exact at_bi ih (fa := am_b (fun x y => x <<< (y &&& 31))) (f := fun x y => x <<< (y &&& 31)) (fun _ _ _ _ hx hy => am_b_ok (fun x y => x <<< (y &&& 31)) hx hy) hk hl hs hh
  | ishr => exact at_bi ih (fa := am_b (fun x y => x >>> (y &&& 31))) (f := fun x y => x >>> (y &&& 31)) (fun _ _ _ _ hx hy => am_b_ok (fun x y => x >>> (y &&& 31)) hx hy) hk hl hs hh
  | iushr => exact at_bi ih (fa := am_b (fun x y => (x.toUInt32 >>> (y.toUInt32 &&& Int32.toUInt32 31)).toInt32)) (f := fun x y => (x.toUInt32 >>> (y.toUInt32 &&& Int32.toUInt32 31)).toInt32) (fun _ _ _ _ hx hy => am_b_ok (fun x y => (x.toUInt32 >>> (y.toUInt32 &&& Int32.toUInt32 31)).toInt32) hx hy) hk hl hs hh
  | iadd => exact at_bi ih (f := fun x y => x + y) (fun _ _ _ _ hx hy => am_add_ok hx hy) hk hl hs hh
  | isub => exact at_bi ih (f := fun x y => x - y) (fun _ _ _ _ hx hy => am_sub_ok hx hy) hk hl hs hh
  | iand => exact at_bi ih (f := fun x y => x &&& y) (fun _ _ _ _ hx hy => am_and_ok hx hy) hk hl hs hh
  | idiv => exact at_bz ih hk hl hs hh
  | irem => exact at_bz ih hk hl hs hh
  | ladd => exact at_bl ih hk hl hs hh
  | lmul => exact at_bl ih hk hl hs hh
  | ldiv => exact at_blz ih hk hl hs hh
  | lrem => exact at_blz ih hk hl hs hh
  | ineg => exact at_u ih hk hl hs hh
  | i2b => exact at_u ih hk hl hs hh
  | i2s => exact at_u ih hk hl hs hh
  | i2l => exact at_i2l ih hk hl hs hh
  | lcmp => exact at_lcmp ih hk hl hs hh
  | dup => exact at_dup ih hk hl hs hh
  | dup2 => exact at_dup2 ih hk hl hs hh
  | pop => exact at_pop ih hk hl hs hh
  | ifCond cd off => exact at_if ih hk hl hs hh
  | if_icmp cd off => exact at_ic ih hk hl hs hh
  | tableswitch d lo hi offs => exact at_tsw ih hk hl hs hh
  | getfield ix => exact at_getf ih hk hl hs hh
  | putfield ix => exact at_putf ih hk hl hs hh
  | iaload => exact at_iald ih hxs hk hl hs hh
  | arraylength => exact at_alen ih hxs hk hl hs hh
  | baload => exact at_bald ih hk hl hs hh
  | laload => exact at_lald ih hk hl hs hh
  | aaload => exact at_aald ih hk hl hs hh
  | iastore => exact at_iast ih hk hl hs hh
  | bastore => exact at_bast ih hk hl hs hh
  | lastore => exact at_last ih hk hl hs hh
  | aastore => exact at_aast ih hk hl hs hh
  | new ix => exact at_new ih hk hl hs hh
  | newarray q => exact at_newa ih hk hl hs hh
  | anewarray ix => exact at_anew ih hk hl hs hh
  | ireturn => exact at_ret hPr hk hs hh
  | lreturn => exact at_retl hPr hk hs hh
  | areturn => exact at_reta hPr hk hs hh
  | return_ => exact at_retv hPr hk hs hh
  | ldc ix =>
    by_cases hz : a = 0
    · have hk1 := (if_pos hz).symm.trans hk
      obtain ⟨r, hr, hp⟩ := ih _ _ _ _ _ _ _ hk1 lv (.int (Int32.ofInt z) :: st) h hl ⟨am_i.sg _, hs⟩ hh
      exact ⟨r, (if_pos hz).trans hr, hp⟩
    · exact absurd ((if_neg hz).symm.trans hk) (fun q => by cases q)
  | ldc_w ix =>
    by_cases hz : a = 0
    · have hk1 := (if_pos hz).symm.trans hk
      obtain ⟨r, hr, hp⟩ := ih _ _ _ _ _ _ _ hk1 lv (.int (Int32.ofInt z) :: st) h hl ⟨am_i.sg _, hs⟩ hh
      exact ⟨r, (if_pos hz).trans hr, hp⟩
    · exact absurd ((if_neg hz).symm.trans hk) (fun q => by cases q)
  | invokevirtual ix =>
    by_cases hb : b = 0
    · obtain ⟨r, hr, hp⟩ := at_inv ih hbig ((if_pos hb).symm.trans hk) hl hs hh
      exact ⟨r, (if_pos hb).trans hr, hp⟩
    · exact absurd ((if_neg hb).symm.trans hk) (fun q => by cases q)
  | invokespecial ix =>
    by_cases hb : b = 1
    · obtain ⟨r, hr, hp⟩ := at_inv ih hbig ((if_pos hb).symm.trans hk) hl hs hh
      exact ⟨r, (if_pos hb).trans hr, hp⟩
    · have hk2 := (if_neg hb).symm.trans hk
      by_cases hb9 : b = 9
      · obtain ⟨r, hr, hp⟩ := at_obj ih ((if_pos hb9).symm.trans hk2) hl hs hh
        exact ⟨r, (if_neg hb).trans ((if_pos hb9).trans hr), hp⟩
      · exact absurd ((if_neg hb9).symm.trans hk2) (fun q => by cases q)
  | invokestatic ix =>
    by_cases hb : b = 8
    · obtain ⟨r, hr, hp⟩ := at_copy ih ((if_pos hb).symm.trans hk) hl hs hh
      exact ⟨r, (if_pos hb).trans hr, hp⟩
    · have hk2 := (if_neg hb).symm.trans hk
      by_cases hb9 : b = 2 ∨ b = 3
      · obtain ⟨r, hr, hp⟩ := at_ins ih hbig ((if_pos hb9).symm.trans hk2) hl hs hh
        exact ⟨r, (if_neg hb).trans ((if_pos hb9).trans hr), hp⟩
      · exact absurd ((if_neg hb9).symm.trans hk2) (fun q => by cases q)
  | _ => exact absurd (show (none : am_R) = some R from hk) (fun q => by cases q)
end SimStep
/-- the pure machine, n steps on from a continuation -/
noncomputable def pm_runK (xs : List Int32) (tab : Nat → Option pm_M) (big : Nat → List Value → pm_H → pm_R) (mm : pm_M) (k0 : pm_K) (n : Nat) : pm_K := Nat.rec (motive := fun _ => pm_K) k0 (fun _ k => pm_next xs tab big mm k) n
theorem pm_runK_eq (xs : List Int32) (tab : Nat → Option pm_M) (big : Nat → List Value → pm_H → pm_R) (mm : pm_M) (n0 : Nat) : ∀ n, pm_runK xs tab big mm (pm_run xs tab big mm n0) n = pm_run xs tab big mm (n0 + n)
  | 0 => rfl
  | n + 1 => by
    show pm_next xs tab big mm (pm_runK xs tab big mm (pm_run xs tab big mm n0) n) = pm_next xs tab big mm (pm_run xs tab big mm (n0 + n))
    rw [pm_runK_eq xs tab big mm n0 n]
theorem at_run {Pr : Option am_V × am_H → Option Value × pm_H → Prop} {xa : List am_I} {xs : List Int32} {tab : Nat → Option pm_M} {ba : Nat → List am_V → am_H → am_R} {bc : Nat → List Value → pm_H → pm_R} {mm : pm_M} {ka : am_K} {kc : pm_K} (hxs : am_all am_i xa xs) (hPr : ∀ R r, am_r R r → Pr R r) (hbig : ∀ M2 as h Ra, ba M2 as h = some Ra → ∀ cs hc, am_all am_v as cs → am_h h hc → ∃ r, bc M2 cs hc = some r ∧ am_r Ra r) (h0 : am_S Pr ka kc) : ∀ n, am_S Pr (am_run xa tab ba mm ka n) (pm_runK xs tab bc mm kc n)
  | 0 => h0
  | n + 1 => by
    intro pc lva sta ha c sl R hk lv st h hl hs hh
    have hk1 : am_next xa tab ba mm (am_run xa tab ba mm ka n) pc lva sta ha c sl = some R := hk
    show ∃ r, pm_next xs tab bc mm (pm_runK xs tab bc mm kc n) pc lv st h c sl = some r ∧ Pr R r
    unfold am_next at hk1
    unfold pm_next
    split at hk1
    · rename_i ee he
      rw [he]
      exact at_step hxs (at_run hxs hPr hbig h0 n) hPr hbig hk1 hl hs hh
    · cases hk1
theorem am_args_ok : ∀ {as : List am_V} {cs : List Value} (i : Nat), am_all am_v as cs → am_all am_q (am_args i as) (lv_args i cs)
  | [], [], _, _ => trivial
  | a :: as, v :: cs, i, h => by
    refine ⟨⟨rfl, h.1⟩, ?_⟩
    rw [h.1.cat]
    exact am_args_ok _ h.2
  | [], _ :: _, _, h => h.elim
  | _ :: _, [], _, h => h.elim
theorem at_big {xa : List am_I} {xs : List Int32} {tab : Nat → Option pm_M} (hxs : am_all am_i xa xs) (N : Nat) : ∀ (d : Nat) (M2 : Nat) (as : List am_V) (h : am_H) (Ra : Option am_V × am_H), am_big xa tab N d M2 as h = some Ra → ∀ (cs : List Value) (hc : pm_H), am_all am_v as cs → am_h h hc → ∃ r, pm_big xs tab N d M2 cs hc = some r ∧ am_r Ra r
  | 0, _, _, _, _, hk, _, _, _, _ => by cases hk
  | d + 1, M2, as, h, Ra, hk, cs, hc, hs, hh => by
    have hk1 : (match tab M2 with
      | some mm => if am_words as ≤ pm_ml mm then (if as.length = pm_n mm then am_run xa tab (am_big xa tab N d) mm (fun _ _ _ _ _ _ => none) N 0 (am_args 0 as) [] h 0 0 else none) else none
      | none => none) = some Ra := hk
    show ∃ r, (match tab M2 with
      | some mm => if pm_words cs ≤ pm_ml mm then (if cs.length = pm_n mm then pm_run xs tab (pm_big xs tab N d) mm N 0 (lv_args 0 cs) [] hc 0 0 else none) else none
      | none => none) = some r ∧ am_r Ra r
    split at hk1
    · rename_i mm hm
      split at hk1
      · rename_i hw
        split at hk1
        · rename_i hn
          have hS := at_run (Pr := am_r) (tab := tab) (mm := mm) (ba := am_big xa tab N d) (bc := pm_big xs tab N d) hxs (fun _ _ h => h) (fun M2 as h Ra q => at_big (tab := tab) hxs N d M2 as h Ra q) (ka := fun _ _ _ _ _ _ => none) (kc := pm_run xs tab (pm_big xs tab N d) mm 0) (fun _ _ _ _ _ _ _ q => by cases q) N
          rw [pm_runK_eq, Nat.zero_add] at hS
          obtain ⟨r, hr, hp⟩ := hS _ _ _ _ _ _ _ hk1 (lv_args 0 cs) [] hc (am_args_ok 0 hs) trivial hh
          refine ⟨r, ?_, hp⟩
          rw [if_pos (by rw [show pm_words cs = am_words as from (am_all.sum (fun a b h => am_v.cat h) hs).symm]; exact hw), if_pos (by rw [← hs.len]; exact hn)]
          exact hr
        · cases hk1
      · cases hk1
    · cases hk1
end
section
/-! THE FRESH OBJECTS (printed by wip/gen/gen20.py by a twin of the machine; checked below). -/
def fr_H : am_H := (80, [[.inr (.inr (.inr (6, [.inr (.inr (some 9)), .inr (.inr (some 11)), .inr (.inr (some 20)), .inr (.inr (some 28)), .inr (.inr (some 34)), .inr (.inr (some 44)), .inr (.inr (some 61)), .inl (0, 0), .inl (0, 0)]))), .inr (.inr (.inr (2, [.inr (.inr (some 10)), .inl (0, 0), .inl (0, 0), .inl (0, 0), .inl (0, 0), .inl (0, 0)]))), .inl (1, [(0, 0), (0, 0), (0, 0), (0, 0), (0, 0), (0, 0), (0, 0), (0, 0), (0, 0), (0, 0), (0, 0), (0, 0), (0, 0), (0, 0), (0, 0), (0, 0), (0, 0), (0, 0), (0, 0), (0, 0), (0, 0), (0, 0), (0, 0), (0, 0), (0, 0), (0, 0), (0, 0), (0, 0), (0, 0), (0, 0), (0, 0), (0, 0), (0, 0), (0, 0), (0, 0), (0, 0), (0, 0), (0, 0), (0, 0), (0, 0), (0, 0), (0, 0), (0, 0), (0, 0), (0, 0), (0, 0), (0, 0), (0, 0), (0, 0), (0, 0), (0, 0), (0, 0), (0, 0), (0, 0), (0, 0), (0, 0), (0, 0), (0, 0), (0, 0), (0, 0), (0, 0), (0, 0), (0, 0), (0, 0), (0, 0), (0, 0), (0, 0), (0, 0), (0, 0), (0, 0), (0, 0), (0, 0), (0, 0), (0, 0), (0, 0), (0, 0), (0, 0), (0, 0), (0, 0), (0, 0), (0, 0), (0, 0), (0, 0), (0, 0), (0, 0), (0, 0), (0, 0), (0, 0), (0, 0), (0, 0), (0, 0), (0, 0), (0, 0), (0, 0), (0, 0), (0, 0), (0, 0), (0, 0), (0, 0), (0, 0), (0, 0), (0, 0), (0, 0), (0, 0), (0, 0), (0, 0), (0, 0), (0, 0), (0, 0), (0, 0), (0, 0), (0, 0), (0, 0), (0, 0), (0, 0), (0, 0), (0, 0), (0, 0), (0, 0), (0, 0), (0, 0), (0, 0), (0, 0), (0, 0), (0, 0), (0, 0), (0, 0), (0, 0), (0, 0), (0, 0), (0, 0), (0, 0), (0, 0), (0, 0), (0, 0), (0, 0), (0, 0), (0, 0), (0, 0), (0, 0), (0, 0), (0, 0), (0, 0), (0, 0), (0, 0), (0, 0), (0, 0), (0, 0), (0, 0), (0, 0), (0, 0), (0, 0), (0, 0), (0, 0), (0, 0), (0, 0), (0, 0), (0, 0), (0, 0), (0, 0)]), .inr (.inr (.inr (3, [.inr (.inr (some 12)), .inl (0, 0), .inl (0, 0), .inl (0, 0), .inr (.inr (some 9)), .inl (0, 0), .inl (0, 0), .inl (0, 0)]))), .inr (.inr (.inr (4, [.inl (3, 3), .inl (3, 3), .inl (0, 0), .inl (0, 0), .inl (0, 0), .inl (0, 0), .inl (0, 0), .inr (.inr (some 13)), .inr (.inr (some 14)), .inr (.inr (some 15)), .inr (.inr (some 16)), .inr (.inr (some 17)), .inr (.inr (some 18)), .inr (.inr (some 19))]))), .inl (0, [(0, 0), (0, 0), (0, 0), (0, 0), (0, 0), (0, 0)]), .inl (0, [(0, 0), (0, 0), (0, 0), (0, 0), (0, 0), (0, 0)]), .inl (0, [(0, 0), (0, 0), (0, 0), (0, 0), (0, 0), (0, 0)]), .inl (0, [(-4, -4), (-4, -4), (-4, -4), (-4, -4), (-4, -4), (-4, -4)])],
  [.inl (0, [(0, 0), (4, 4), (3, 3), (2, 2), (1, 1)]), .inl (0, [(0, 0), (0, 0), (0, 0), (0, 0), (0, 0), (0, 0), (0, 0), (0, 0)]), .inl (0, [(0, 0), (0, 0), (0, 0), (0, 0), (0, 0), (0, 0), (0, 0), (0, 0)]), .inr (.inr (.inr (4, [.inl (3, 3), .inl (3, 3), .inl (0, 0), .inl (0, 0), .inl (0, 0), .inl (0, 0), .inl (0, 0), .inr (.inr (some 21)), .inr (.inr (some 22)), .inr (.inr (some 23)), .inr (.inr (some 24)), .inr (.inr (some 25)), .inr (.inr (some 26)), .inr (.inr (some 27))]))), .inl (0, [(0, 0), (0, 0), (0, 0), (0, 0), (0, 0), (0, 0)]), .inl (0, [(0, 0), (0, 0), (0, 0), (0, 0), (0, 0), (0, 0)]), .inl (0, [(0, 0), (0, 0), (0, 0), (0, 0), (0, 0), (0, 0)]), .inl (0, [(-4, -4), (-4, -4), (-4, -4), (-4, -4), (-4, -4), (-4, -4)]), .inl (0, [(0, 0), (4, 4), (3, 3), (2, 2), (1, 1)])],
  [.inl (0, [(0, 0), (0, 0), (0, 0), (0, 0), (0, 0), (0, 0), (0, 0), (0, 0)]), .inl (0, [(0, 0), (0, 0), (0, 0), (0, 0), (0, 0), (0, 0), (0, 0), (0, 0)]), .inr (.inr (.inr (5, [.inr (.inr (some 29)), .inr (.inr (some 30)), .inr (.inr (some 31)), .inr (.inr (some 32)), .inr (.inr (some 33)), .inl (0, 0), .inl (0, 0)]))), .inl (0, [(0, 0), (0, 0), (0, 0), (0, 0), (0, 0), (0, 0)]), .inl (0, [(0, 0), (0, 0), (0, 0), (0, 0), (0, 0), (0, 0)]), .inl (0, [(0, 0), (0, 0), (0, 0), (0, 0), (0, 0), (0, 0)]), .inl (0, [(0, 0), (0, 0), (0, 0), (0, 0), (0, 0), (0, 0)]), .inl (0, [(0, 0), (0, 0), (0, 0), (0, 0), (0, 0), (0, 0)]), .inr (.inr (.inr (0, [.inr (.inr (some 28)), .inr (.inr (some 35)), .inr (.inr (some 43))])))],
  [.inr (.inr (.inr (4, [.inl (3, 3), .inl (3, 3), .inl (0, 0), .inl (0, 0), .inl (0, 0), .inl (0, 0), .inl (0, 0), .inr (.inr (some 36)), .inr (.inr (some 37)), .inr (.inr (some 38)), .inr (.inr (some 39)), .inr (.inr (some 40)), .inr (.inr (some 41)), .inr (.inr (some 42))]))), .inl (0, [(0, 0), (0, 0), (0, 0), (0, 0), (0, 0), (0, 0)]), .inl (0, [(0, 0), (0, 0), (0, 0), (0, 0), (0, 0), (0, 0)]), .inl (0, [(0, 0), (0, 0), (0, 0), (0, 0), (0, 0), (0, 0)]), .inl (0, [(-4, -4), (-4, -4), (-4, -4), (-4, -4), (-4, -4), (-4, -4)]), .inl (0, [(0, 0), (4, 4), (3, 3), (2, 2), (1, 1)]), .inl (0, [(0, 0), (0, 0), (0, 0), (0, 0), (0, 0), (0, 0), (0, 0), (0, 0)]), .inl (0, [(0, 0), (0, 0), (0, 0), (0, 0), (0, 0), (0, 0), (0, 0), (0, 0)]), .inr (.inl (3, [(0, 0), (0, 0), (0, 0), (0, 0), (0, 0), (0, 0), (0, 0), (0, 0), (0, 0), (0, 0), (0, 0), (0, 0), (0, 0), (0, 0), (0, 0), (0, 0), (0, 0), (0, 0), (0, 0), (0, 0), (0, 0), (0, 0), (0, 0), (0, 0), (0, 0), (0, 0), (0, 0), (0, 0), (0, 0), (0, 0), (0, 0), (0, 0), (0, 0), (0, 0), (0, 0), (0, 0), (0, 0), (0, 0), (0, 0), (0, 0), (0, 0), (0, 0), (0, 0), (0, 0), (0, 0), (0, 0), (0, 0), (0, 0), (0, 0), (0, 0), (0, 0), (0, 0), (0, 0), (0, 0), (0, 0), (0, 0), (0, 0), (0, 0), (0, 0), (0, 0), (0, 0)]))],
  [.inr (.inr (.inl (4, [some 45, some 53]))), .inr (.inr (.inr (4, [.inl (3, 3), .inl (3, 3), .inl (0, 0), .inl (0, 0), .inl (0, 0), .inl (0, 0), .inl (0, 0), .inr (.inr (some 46)), .inr (.inr (some 47)), .inr (.inr (some 48)), .inr (.inr (some 49)), .inr (.inr (some 50)), .inr (.inr (some 51)), .inr (.inr (some 52))]))), .inl (0, [(0, 0), (0, 0), (0, 0), (0, 0), (0, 0), (0, 0)]), .inl (0, [(0, 0), (0, 0), (0, 0), (0, 0), (0, 0), (0, 0)]), .inl (0, [(0, 0), (0, 0), (0, 0), (0, 0), (0, 0), (0, 0)]), .inl (0, [(-4, -4), (-4, -4), (-4, -4), (-4, -4), (-4, -4), (-4, -4)]), .inl (0, [(0, 0), (4, 4), (3, 3), (2, 2), (1, 1)]), .inl (0, [(0, 0), (0, 0), (0, 0), (0, 0), (0, 0), (0, 0), (0, 0), (0, 0)]), .inl (0, [(0, 0), (0, 0), (0, 0), (0, 0), (0, 0), (0, 0), (0, 0), (0, 0)])],
  [.inr (.inr (.inr (4, [.inl (3, 3), .inl (3, 3), .inl (0, 0), .inl (0, 0), .inl (0, 0), .inl (0, 0), .inl (0, 0), .inr (.inr (some 54)), .inr (.inr (some 55)), .inr (.inr (some 56)), .inr (.inr (some 57)), .inr (.inr (some 58)), .inr (.inr (some 59)), .inr (.inr (some 60))]))), .inl (0, [(0, 0), (0, 0), (0, 0), (0, 0), (0, 0), (0, 0)]), .inl (0, [(0, 0), (0, 0), (0, 0), (0, 0), (0, 0), (0, 0)]), .inl (0, [(0, 0), (0, 0), (0, 0), (0, 0), (0, 0), (0, 0)]), .inl (0, [(-4, -4), (-4, -4), (-4, -4), (-4, -4), (-4, -4), (-4, -4)]), .inl (0, [(0, 0), (4, 4), (3, 3), (2, 2), (1, 1)]), .inl (0, [(0, 0), (0, 0), (0, 0), (0, 0), (0, 0), (0, 0), (0, 0), (0, 0)]), .inl (0, [(0, 0), (0, 0), (0, 0), (0, 0), (0, 0), (0, 0), (0, 0), (0, 0)]), .inr (.inr (.inl (5, [some 62, some 64, some 66, some 68])))],
  [.inr (.inr (.inr (1, [.inr (.inr (some 63)), .inl (-1, -1), .inl (0, 0)]))), .inl (0, [(0, 0), (0, 0), (0, 0), (0, 0), (0, 0), (0, 0), (0, 0), (0, 0), (0, 0), (0, 0), (0, 0), (0, 0), (0, 0), (0, 0), (0, 0), (0, 0), (0, 0), (0, 0), (0, 0), (0, 0), (0, 0), (0, 0), (0, 0), (0, 0), (0, 0), (0, 0), (0, 0), (0, 0), (0, 0), (0, 0), (0, 0), (0, 0), (0, 0), (0, 0), (0, 0), (0, 0), (0, 0), (0, 0), (0, 0), (0, 0)]), .inr (.inr (.inr (1, [.inr (.inr (some 65)), .inl (-1, -1), .inl (0, 0)]))), .inl (0, [(0, 0), (0, 0), (0, 0), (0, 0), (0, 0), (0, 0), (0, 0), (0, 0), (0, 0), (0, 0), (0, 0), (0, 0), (0, 0), (0, 0), (0, 0), (0, 0), (0, 0), (0, 0), (0, 0), (0, 0), (0, 0), (0, 0), (0, 0), (0, 0), (0, 0), (0, 0), (0, 0), (0, 0), (0, 0), (0, 0), (0, 0), (0, 0), (0, 0), (0, 0), (0, 0), (0, 0), (0, 0), (0, 0), (0, 0), (0, 0)]), .inr (.inr (.inr (1, [.inr (.inr (some 67)), .inl (-1, -1), .inl (0, 0)]))), .inl (0, [(0, 0), (0, 0), (0, 0), (0, 0), (0, 0), (0, 0), (0, 0), (0, 0), (0, 0), (0, 0), (0, 0), (0, 0), (0, 0), (0, 0), (0, 0), (0, 0), (0, 0), (0, 0), (0, 0), (0, 0), (0, 0), (0, 0), (0, 0), (0, 0), (0, 0), (0, 0), (0, 0), (0, 0), (0, 0), (0, 0), (0, 0), (0, 0), (0, 0), (0, 0), (0, 0), (0, 0), (0, 0), (0, 0), (0, 0), (0, 0)]), .inr (.inr (.inr (1, [.inr (.inr (some 69)), .inl (-1, -1), .inl (0, 0)]))), .inl (0, [(0, 0), (0, 0), (0, 0), (0, 0), (0, 0), (0, 0), (0, 0), (0, 0), (0, 0), (0, 0), (0, 0), (0, 0), (0, 0), (0, 0), (0, 0), (0, 0), (0, 0), (0, 0), (0, 0), (0, 0), (0, 0), (0, 0), (0, 0), (0, 0), (0, 0), (0, 0), (0, 0), (0, 0), (0, 0), (0, 0), (0, 0), (0, 0), (0, 0), (0, 0), (0, 0), (0, 0), (0, 0), (0, 0), (0, 0), (0, 0)]), .inr (.inr (.inr (7, [.inr (.inr (some 71)), .inr (.inr (some 72)), .inl (3, 3), .inl (3, 3), .inl (0, 0), .inr (.inr (some 73)), .inl (3, 3), .inl (3, 3), .inl (0, 0), .inl (0, 0), .inl (-4, -4), .inl (-4, -4), .inr (.inr (some 74)), .inl (0, 0), .inl (0, 0), .inl (0, 0), .inl (0, 0), .inl (0, 0), .inl (0, 0), .inl (0, 0), .inr (.inr (some 75)), .inr (.inr (some 76)), .inr (.inr (some 77)), .inr (.inr (some 78)), .inr (.inr (some 79)), .inr (.inr (some 80)), .inr (.inr (some 81)), .inl (0, 0), .inr (.inr (some 82)), .inr (.inr (some 83)), .inr (.inr (some 84)), .inr (.inr (some 85)), .inr (.inr (some 86)), .inl (0, 0), .inr (.inr (some 87))])))],
  [.inl (0, [(-4, -4), (-4, -4), (-4, -4), (-4, -4), (-4, -4), (0, 0), (0, 0), (0, 0), (0, 0), (0, 0), (0, 0), (0, 0), (0, 0), (0, 0), (0, 0), (-4, -4), (-4, -4), (-4, -4), (-4, -4), (-4, -4), (0, 0), (4, 4), (3, 3), (2, 2), (1, 1), (0, 0), (0, 0), (0, 0), (0, 0), (0, 0), (0, 0), (0, 0), (0, 0), (0, 0), (0, 0), (0, 0), (0, 0), (0, 0), (0, 0), (0, 0), (0, 0), (0, 0), (0, 0), (0, 0), (0, 0), (0, 0), (0, 0), (0, 0), (0, 0), (0, 0), (0, 0), (0, 0), (0, 0), (0, 0), (0, 0), (0, 0), (0, 0), (0, 0), (0, 0), (0, 0), (0, 0), (0, 0), (0, 0), (0, 0), (0, 0), (0, 0), (0, 0), (0, 0), (0, 0), (0, 0), (0, 0), (0, 0), (0, 0), (0, 0), (0, 0), (0, 0), (0, 0), (0, 0), (0, 0), (0, 0), (0, 0), (0, 0), (0, 0), (0, 0), (0, 0), (0, 0), (0, 0), (0, 0), (0, 0), (0, 0), (0, 0), (0, 0), (0, 0), (0, 0), (0, 0), (0, 0), (0, 0), (0, 0), (0, 0), (0, 0), (0, 0), (0, 0), (0, 0), (0, 0), (0, 0), (0, 0), (0, 0), (0, 0), (0, 0), (0, 0), (0, 0), (0, 0), (0, 0), (0, 0), (0, 0), (0, 0), (0, 0), (0, 0), (0, 0), (0, 0), (0, 0), (0, 0), (0, 0), (0, 0), (0, 0), (0, 0), (0, 0), (0, 0), (0, 0), (0, 0), (0, 0), (0, 0)]), .inl (2, [(0, 0), (0, 0)]), .inl (0, [(-4, -4), (-4, -4), (-4, -4), (-4, -4), (-4, -4), (0, 0), (0, 0), (0, 0), (0, 0), (0, 0), (0, 0), (0, 0), (0, 0), (0, 0), (0, 0), (-4, -4), (-4, -4), (-4, -4), (-4, -4), (-4, -4), (0, 0), (4, 4), (3, 3), (2, 2), (1, 1), (0, 0), (0, 0), (0, 0), (0, 0), (0, 0), (0, 0), (0, 0), (0, 0), (0, 0), (0, 0), (0, 0), (0, 0), (0, 0), (0, 0), (0, 0), (0, 0), (0, 0), (0, 0), (0, 0)]), .inl (0, [(0, 0), (0, 0), (0, 0), (0, 0), (0, 0), (0, 0), (0, 0), (0, 0), (0, 0), (0, 0), (0, 0), (0, 0), (0, 0), (0, 0), (0, 0), (0, 0), (0, 0), (0, 0), (0, 0), (0, 0), (0, 0), (0, 0), (0, 0), (0, 0), (0, 0), (0, 0), (0, 0), (0, 0), (0, 0), (0, 0), (0, 0), (0, 0), (0, 0), (0, 0), (0, 0), (0, 0), (0, 0), (0, 0), (0, 0), (0, 0), (0, 0), (0, 0), (0, 0), (0, 0), (0, 0), (0, 0), (0, 0), (0, 0), (0, 0), (0, 0), (0, 0), (0, 0), (0, 0), (0, 0), (0, 0), (0, 0), (0, 0), (0, 0), (0, 0), (0, 0), (0, 0), (0, 0), (0, 0), (0, 0), (0, 0), (0, 0), (0, 0), (0, 0), (0, 0), (0, 0), (0, 0), (0, 0), (0, 0), (0, 0), (0, 0), (0, 0), (0, 0), (0, 0), (0, 0), (0, 0), (0, 0), (0, 0), (0, 0), (0, 0), (0, 0), (0, 0), (0, 0), (0, 0), (0, 0), (0, 0), (0, 0), (0, 0), (0, 0), (0, 0), (0, 0), (0, 0), (0, 0), (0, 0), (0, 0), (0, 0), (0, 0), (0, 0), (0, 0), (0, 0), (0, 0), (0, 0), (0, 0), (0, 0), (0, 0), (0, 0), (0, 0), (0, 0), (0, 0), (0, 0), (0, 0), (0, 0), (0, 0), (0, 0), (0, 0), (0, 0), (0, 0), (0, 0), (0, 0), (0, 0), (0, 0), (0, 0), (0, 0), (0, 0), (0, 0), (0, 0), (0, 0), (0, 0), (0, 0), (0, 0), (0, 0), (0, 0), (0, 0), (0, 0), (0, 0), (0, 0), (0, 0), (0, 0), (0, 0), (0, 0), (0, 0), (0, 0), (0, 0), (0, 0), (0, 0), (0, 0), (0, 0), (0, 0), (0, 0), (0, 0), (0, 0), (0, 0), (0, 0), (0, 0), (0, 0), (0, 0)]), .inl (0, [(0, 0), (0, 0), (0, 0), (0, 0), (0, 0), (0, 0)]), .inl (0, [(0, 0), (0, 0), (0, 0), (0, 0), (0, 0), (0, 0)]), .inl (0, [(0, 0), (0, 0), (0, 0), (0, 0), (0, 0), (0, 0)]), .inl (0, [(0, 0), (0, 0), (0, 0), (0, 0), (0, 0), (0, 0)]), .inl (0, [(0, 0), (0, 0), (0, 0), (0, 0), (0, 0), (0, 0)])],
  [.inl (0, [(0, 0), (0, 0), (0, 0), (0, 0), (0, 0), (0, 0)]), .inl (0, [(0, 0), (0, 0), (0, 0), (0, 0), (0, 0), (0, 0)]), .inl (0, [(0, 0), (0, 0), (0, 0), (0, 0), (0, 0), (0, 0), (0, 0), (0, 0), (0, 0), (0, 0), (0, 0), (0, 0), (0, 0), (0, 0), (0, 0), (0, 0), (0, 0), (0, 0), (0, 0), (0, 0), (0, 0), (0, 0), (0, 0), (0, 0), (0, 0), (0, 0), (0, 0), (0, 0), (0, 0), (0, 0), (0, 0), (0, 0), (0, 0), (0, 0), (0, 0), (0, 0), (0, 0), (0, 0), (0, 0), (0, 0), (0, 0), (0, 0), (0, 0), (0, 0), (0, 0), (0, 0), (0, 0), (0, 0), (0, 0), (0, 0), (0, 0), (0, 0), (0, 0), (0, 0), (0, 0), (0, 0), (0, 0), (0, 0), (0, 0), (0, 0), (0, 0)]), .inl (0, [(0, 0), (0, 0), (0, 0), (0, 0), (0, 0), (0, 0), (0, 0), (0, 0), (0, 0), (0, 0), (0, 0), (0, 0), (0, 0), (0, 0), (0, 0), (0, 0), (0, 0), (0, 0), (0, 0), (0, 0), (0, 0), (0, 0), (0, 0), (0, 0), (0, 0), (0, 0), (0, 0), (0, 0), (0, 0), (0, 0), (0, 0), (0, 0), (0, 0), (0, 0), (0, 0), (0, 0), (0, 0), (0, 0), (0, 0), (0, 0), (0, 0), (0, 0), (0, 0), (0, 0), (0, 0), (0, 0), (0, 0), (0, 0), (0, 0), (0, 0), (0, 0), (0, 0), (0, 0), (0, 0), (0, 0), (0, 0), (0, 0), (0, 0), (0, 0), (0, 0), (0, 0)]), .inl (0, [(-4, -4), (-4, -4), (-4, -4), (-4, -4)]), .inl (0, [(0, 0), (0, 0), (0, 0), (0, 0)]), .inl (0, [(0, 0), (0, 0), (0, 0), (0, 0), (0, 0), (0, 0), (0, 0), (0, 0), (0, 0), (0, 0), (0, 0), (0, 0), (0, 0), (0, 0), (0, 0), (0, 0), (0, 0), (0, 0), (0, 0), (0, 0), (0, 0), (0, 0), (0, 0), (0, 0), (0, 0), (0, 0), (0, 0), (0, 0), (0, 0), (0, 0), (0, 0), (0, 0), (0, 0), (0, 0), (0, 0), (0, 0), (0, 0), (0, 0), (0, 0), (0, 0), (0, 0), (0, 0), (0, 0), (0, 0), (0, 0), (0, 0), (0, 0), (0, 0), (0, 0), (0, 0), (0, 0), (0, 0), (0, 0), (0, 0), (0, 0), (0, 0), (0, 0), (0, 0), (0, 0), (0, 0), (0, 0), (0, 0), (0, 0), (0, 0), (0, 0), (0, 0), (0, 0), (0, 0), (0, 0), (0, 0), (0, 0), (0, 0), (0, 0), (0, 0), (0, 0), (0, 0), (0, 0), (0, 0), (0, 0), (0, 0), (0, 0), (0, 0), (0, 0), (0, 0), (0, 0), (0, 0), (0, 0), (0, 0), (0, 0), (0, 0), (0, 0), (0, 0), (0, 0), (0, 0), (0, 0), (0, 0), (0, 0), (0, 0), (0, 0), (0, 0), (0, 0), (0, 0), (0, 0), (0, 0), (0, 0), (0, 0), (0, 0), (0, 0), (0, 0), (0, 0), (0, 0), (0, 0), (0, 0), (0, 0), (0, 0), (0, 0), (0, 0), (0, 0), (0, 0), (0, 0), (0, 0), (0, 0), (0, 0), (0, 0), (0, 0), (0, 0), (0, 0), (0, 0), (0, 0), (0, 0), (0, 0), (0, 0), (0, 0), (0, 0), (0, 0), (0, 0), (0, 0), (0, 0), (0, 0), (0, 0), (0, 0), (0, 0), (0, 0), (0, 0), (0, 0), (0, 0), (0, 0), (0, 0), (0, 0), (0, 0), (0, 0), (0, 0), (0, 0), (0, 0), (0, 0), (0, 0), (0, 0), (0, 0), (0, 0), (0, 0)]), .inl (0, [(0, 0), (0, 0), (0, 0), (0, 0), (0, 0)])]])
def fr_L : am_L := [(3, .inl (0, 0)), (2, .inr (.inr (some 70))), (1, .inr (.inr (some 8))), (0, .inr (.inr (some 0)))]
def fr_x : List am_I := [am_top, am_top, am_top, am_top, am_top]
def fr_mark : Option am_V × am_H := (some (.inl (1, 0)), (0, []))
def fr_k : am_K := fun pc lv st h c sl => match decide (pc = 32) && (aeL aeQ lv fr_L && (aeL aeV st [.inl (0, 63)] && (decide (h.1 = fr_H.1) && aeL (aeL aeC) h.2 fr_H.2 && (decide (c = 80) && decide (sl = 1467))))) with
  | true => some fr_mark
  | false => none
theorem fr_run : (match am_run fr_x pm_m (am_big fr_x pm_m 20000 9) m_0 fr_k 21 0 [(0, .inr (.inr (some 0)))] [] (0, []) 0 0 with
  | some (some (.inl a), _) => aeI a (1, 0)
  | _ => false) = true := by decide +kernel
noncomputable def bx (k : Int) (b1 b2 b3 b4 : am_I) : Bool := match am_run [am_top, b1, b2, b3, b4] pm_m (am_big [am_top, b1, b2, b3, b4] pm_m 20000 9) m_0 (fun _ _ _ _ _ _ => none) 60 32 fr_L [.inl (k, k)] fr_H 80 1467 with
  | some (some (.inl a), _) => aeI a (1, 1)
  | _ => false
end
section
/-! THE BOXES (printed by wip/gen/gen21.py): for each call, boxes that cover all of its arguments. -/
def bx_cov (lo : Int) : List am_I → Bool
  | [] => decide (lo = 2147483648)
  | b :: r => decide (b.1 = lo) && bx_cov (b.2 + 1) r
theorem bx_cov_ok : ∀ (l : List am_I) (lo : Int), bx_cov lo l = true → ∀ x : Int, lo ≤ x → x ≤ 2147483647 → ∃ b ∈ l, b.1 ≤ x ∧ x ≤ b.2
  | [], lo, h, x, h1, h2 => by
    have e : lo = 2147483648 := of_decide_eq_true h
    omega
  | b :: r, lo, h, x, h1, h2 => by
    have h3 : decide (b.1 = lo) = true ∧ bx_cov (b.2 + 1) r = true := by rw [← Bool.and_eq_true]; exact h
    have e : b.1 = lo := of_decide_eq_true h3.1
    by_cases hx : x ≤ b.2
    · exact ⟨b, List.mem_cons_self, by omega, hx⟩
    · obtain ⟨c, hc, hd⟩ := bx_cov_ok r (b.2 + 1) h3.2 x (by omega) h2
      exact ⟨c, List.mem_cons_of_mem _ hc, hd⟩
theorem bx_in {l : List am_I} (h : bx_cov (-2147483648) l = true) (x : Int32) : ∃ b ∈ l, am_i b x := by
  have hr := am_i.rng x
  obtain ⟨b, hb, h1⟩ := bx_cov_ok l _ h x.toInt hr.1 hr.2
  exact ⟨b, hb, h1⟩
def bx_A (k : Int) (l1 l2 l3 l4 : List am_I) : Prop := ∀ b1 ∈ l1, ∀ b2 ∈ l2, ∀ b3 ∈ l3, ∀ b4 ∈ l4, bx k b1 b2 b3 b4 = true
theorem bx_all {k : Int} {l1 l2 l3 l4 : List am_I} (h : (l1.all fun b1 => l2.all fun b2 => l3.all fun b3 => l4.all fun b4 => bx k b1 b2 b3 b4) = true) : bx_A k l1 l2 l3 l4 := fun b1 h1 b2 h2 b3 h3 b4 h4 => List.all_eq_true.mp (List.all_eq_true.mp (List.all_eq_true.mp (List.all_eq_true.mp h b1 h1) b2 h2) b3 h3) b4 h4
theorem bx_app1 {k : Int} {l1 m1 l2 l3 l4 : List am_I} (h : bx_A k l1 l2 l3 l4) (h' : bx_A k m1 l2 l3 l4) : bx_A k (l1 ++ m1) l2 l3 l4 := fun b1 h1 => (List.mem_append.mp h1).elim (h b1) (h' b1)
theorem bx_app2 {k : Int} {l1 l2 m2 l3 l4 : List am_I} (h : bx_A k l1 l2 l3 l4) (h' : bx_A k l1 m2 l3 l4) : bx_A k l1 (l2 ++ m2) l3 l4 := fun b1 h1 b2 h2 => (List.mem_append.mp h2).elim (fun q => h b1 h1 b2 q) (fun q => h' b1 h1 b2 q)
theorem bx_app3 {k : Int} {l1 l2 l3 m3 l4 : List am_I} (h : bx_A k l1 l2 l3 l4) (h' : bx_A k l1 l2 m3 l4) : bx_A k l1 l2 (l3 ++ m3) l4 := fun b1 h1 b2 h2 b3 h3 => (List.mem_append.mp h3).elim (fun q => h b1 h1 b2 h2 b3 q) (fun q => h' b1 h1 b2 h2 b3 q)
end
section
/-! boxes, checked by runs of the interval machine -/
theorem bt_0 : bx_A 0 [(-2147483648, -1), (0, 127), (128, 2147483647)] [(-2147483648, 2147483647)] [(-2147483648, 2147483647)] [(-2147483648, 2147483647)] := bx_all (by decide +kernel)
theorem bt_1 : bx_A 1 [(-2147483648, -1), (0, 0), (1, 2147483647)] [(-2147483648, 2147483647)] [(-2147483648, 2147483647)] [(-2147483648, 2147483647)] := bx_all (by decide +kernel)
theorem bt_2 : bx_A 2 [(-2147483648, 2147483647)] [(-2147483648, 2147483647)] [(-2147483648, 2147483647)] [(-2147483648, 2147483647)] := bx_all (by decide +kernel)
theorem bt_3 : bx_A 3 [(-2147483648, 2147483647)] [(-2147483648, 2147483647)] [(-2147483648, 2147483647)] [(-2147483648, 2147483647)] := bx_all (by decide +kernel)
theorem bt_4 : bx_A 4 [(-2147483648, -2147483639), (-2147483638, -1), (0, 0), (1, 1), (2, 2), (3, 3), (4, 4), (5, 5), (6, 10), (11, 11), (12, 12), (13, 13), (14, 14), (15, 2147483647)] [(-2147483648, 2147483647)] [(-2147483648, 2147483647)] [(-2147483648, 2147483647)] := bx_all (by decide +kernel)
theorem bt_5 : bx_A 5 [(-2147483648, -1), (0, 2147483647)] [(-2147483648, 2147483647)] [(-2147483648, 2147483647)] [(-2147483648, 2147483647)] := bx_all (by decide +kernel)
theorem bt_6 : bx_A 6 [(-2147483648, -1), (0, 8), (9, 2147483647)] [(-2147483648, 2147483647)] [(-2147483648, 2147483647)] [(-2147483648, 2147483647)] := bx_all (by decide +kernel)
theorem bt_7 : bx_A 7 [(-2147483648, -1), (0, 2147483647)] [(-2147483648, 2147483647)] [(-2147483648, 2147483647)] [(-2147483648, 2147483647)] := bx_all (by decide +kernel)
theorem bt_8 : bx_A 8 [(-2147483648, -1), (0, 2147483647)] [(-2147483648, 2147483647)] [(-2147483648, 2147483647)] [(-2147483648, 2147483647)] := bx_all (by decide +kernel)
theorem bt_9 : bx_A 9 [(-2147483648, -1), (0, 2147483647)] [(-2147483648, -1), (0, 0), (1, 2147483647)] [(-2147483648, 2147483647)] [(-2147483648, 2147483647)] := bx_all (by decide +kernel)
theorem bt_10 : bx_A 10 [(-2147483648, -1), (0, 2147483647)] [(-2147483648, 2147483647)] [(-2147483648, 2147483647)] [(-2147483648, 2147483647)] := bx_all (by decide +kernel)
theorem bt_11 : bx_A 11 [(-2147483648, -1), (0, 0), (1, 1), (2, 2), (3, 3), (4, 4), (5, 5), (6, 6), (7, 7), (8, 8), (9, 2147483647)] [(-2147483648, -1), (0, 0), (1, 2147483647)] [(-2147483648, 2147483647)] [(-2147483648, 2147483647)] := bx_all (by decide +kernel)
theorem bt_12 : bx_A 12 [(-2147483648, 0), (1, 1), (2, 2), (3, 3), (4, 4), (5, 2147483647)] [(-2147483648, -1), (0, 9), (10, 2147483647)] [(-2147483648, 2147483647)] [(-2147483648, 2147483647)] := bx_all (by decide +kernel)
theorem bt_13 : bx_A 13 [(-2147483648, -1), (0, 4), (5, 2147483647)] [(-2147483648, 2147483647)] [(-2147483648, 2147483647)] [(-2147483648, 2147483647)] := bx_all (by decide +kernel)
theorem bt_14 : bx_A 14 [(-2147483648, -1), (0, 2147483647)] [(-2147483648, 2147483647)] [(-2147483648, 2147483647)] [(-2147483648, 2147483647)] := bx_all (by decide +kernel)
theorem bt_15 : bx_A 15 [(-2147483648, -1), (0, 2147483647)] [(-2147483648, 2147483647)] [(-2147483648, 2147483647)] [(-2147483648, 2147483647)] := bx_all (by decide +kernel)
theorem bt_16 : bx_A 16 [(-2147483648, 2147483647)] [(-2147483648, 2147483647)] [(-2147483648, 2147483647)] [(-2147483648, 2147483647)] := bx_all (by decide +kernel)
theorem bt_17 : bx_A 17 [(-2147483648, 2147483647)] [(-2147483648, 2147483647)] [(-2147483648, 2147483647)] [(-2147483648, 2147483647)] := bx_all (by decide +kernel)
theorem bt_18_0 : bx_A 18 [(-2147483648, -1), (0, 0), (1, 1), (2, 2), (3, 3), (4, 4), (5, 5), (6, 6), (7, 7), (8, 8), (9, 9), (10, 10), (11, 11), (12, 12), (13, 13), (14, 14), (15, 15), (16, 16), (17, 17), (18, 18), (19, 19), (20, 20)] [(-2147483648, 2147483647)] [(-2147483648, 2147483647)] [(-2147483648, 2147483647)] := bx_all (by decide +kernel)
end
section
/-! boxes, checked by runs of the interval machine -/
theorem bt_18_1 : bx_A 18 [(21, 21), (22, 22), (23, 23), (24, 24), (25, 25), (26, 26), (27, 27), (28, 28), (29, 29), (30, 30), (31, 31), (32, 32), (33, 33), (34, 34), (35, 35), (36, 36), (37, 37), (38, 38), (39, 39), (40, 40)] [(-2147483648, 2147483647)] [(-2147483648, 2147483647)] [(-2147483648, 2147483647)] := bx_all (by decide +kernel)
end
section
/-! boxes, checked by runs of the interval machine -/
theorem bt_18_2 : bx_A 18 [(41, 41), (42, 42), (43, 43), (44, 44), (45, 45), (46, 46), (47, 47), (48, 48), (49, 49), (50, 50), (51, 51), (52, 52)] [(-2147483648, 2147483647)] [(-2147483648, 2147483647)] [(-2147483648, 2147483647)] := bx_all (by decide +kernel)
end
section
/-! boxes, checked by runs of the interval machine -/
theorem bt_18_3 : bx_A 18 [(53, 53), (54, 54), (55, 55), (56, 56), (57, 57), (58, 58), (59, 59), (60, 60), (61, 2147483647)] [(-2147483648, 2147483647)] [(-2147483648, 2147483647)] [(-2147483648, 2147483647)] := bx_all (by decide +kernel)
theorem bt_19 : bx_A 19 [(-2147483648, -1), (0, 2147483647)] [(-2147483648, 2147483647)] [(-2147483648, 2147483647)] [(-2147483648, 2147483647)] := bx_all (by decide +kernel)
theorem bt_20 : bx_A 20 [(-2147483648, 2147483647)] [(-2147483648, 2147483647)] [(-2147483648, 2147483647)] [(-2147483648, 2147483647)] := bx_all (by decide +kernel)
theorem bt_21 : bx_A 21 [(-2147483648, -1), (0, 0), (1, 1), (2, 2147483647)] [(-2147483648, 2147483647)] [(-2147483648, 2147483647)] [(-2147483648, 2147483647)] := bx_all (by decide +kernel)
theorem bt_22_0 : bx_A 22 [(-2147483648, -1)] [(-2147483648, -2147483639), (-2147483638, -1), (0, 0), (1, 9), (10, 2147483647)] [(-2147483648, 2147483647)] [(-2147483648, 2147483647)] := bx_all (by decide +kernel)
theorem bt_22_1 : bx_A 22 [(0, 0)] [(-2147483648, -2147483639), (-2147483638, -1), (0, 0), (1, 9), (10, 2147483647)] [(-2147483648, 2147483647)] [(-2147483648, 2147483647)] := bx_all (by decide +kernel)
theorem bt_22_2 : bx_A 22 [(1, 1)] [(-2147483648, -2147483639), (-2147483638, -1), (0, 0), (1, 9), (10, 2147483647)] [(-2147483648, 2147483647)] [(-2147483648, 2147483647)] := bx_all (by decide +kernel)
theorem bt_22_3 : bx_A 22 [(2, 2)] [(-2147483648, -2147483639), (-2147483638, -1), (0, 0), (1, 9), (10, 2147483647)] [(-2147483648, 2147483647)] [(-2147483648, 2147483647)] := bx_all (by decide +kernel)
theorem bt_22_4 : bx_A 22 [(3, 3)] [(-2147483648, -2147483639), (-2147483638, -1), (0, 0), (1, 9), (10, 2147483647)] [(-2147483648, 2147483647)] [(-2147483648, 2147483647)] := bx_all (by decide +kernel)
theorem bt_22_5 : bx_A 22 [(4, 4)] [(-2147483648, -2147483639), (-2147483638, -1), (0, 0), (1, 9), (10, 2147483647)] [(-2147483648, 2147483647)] [(-2147483648, 2147483647)] := bx_all (by decide +kernel)
theorem bt_22_6 : bx_A 22 [(5, 5)] [(-2147483648, -2147483639), (-2147483638, -1), (0, 0), (1, 9), (10, 2147483647)] [(-2147483648, 2147483647)] [(-2147483648, 2147483647)] := bx_all (by decide +kernel)
theorem bt_22_7 : bx_A 22 [(6, 6)] [(-2147483648, -2147483639), (-2147483638, -1), (0, 0), (1, 9), (10, 2147483647)] [(-2147483648, 2147483647)] [(-2147483648, 2147483647)] := bx_all (by decide +kernel)
theorem bt_22_8 : bx_A 22 [(7, 7)] [(-2147483648, -2147483639), (-2147483638, -1), (0, 0), (1, 9), (10, 2147483647)] [(-2147483648, 2147483647)] [(-2147483648, 2147483647)] := bx_all (by decide +kernel)
theorem bt_22_9 : bx_A 22 [(8, 8)] [(-2147483648, -2147483639), (-2147483638, -1), (0, 0), (1, 9), (10, 2147483647)] [(-2147483648, 2147483647)] [(-2147483648, 2147483647)] := bx_all (by decide +kernel)
theorem bt_22_10 : bx_A 22 [(9, 9)] [(-2147483648, -2147483639), (-2147483638, -1), (0, 0), (1, 9), (10, 2147483647)] [(-2147483648, 2147483647)] [(-2147483648, 2147483647)] := bx_all (by decide +kernel)
end
section
/-! boxes, checked by runs of the interval machine -/
theorem bt_22_11 : bx_A 22 [(10, 10)] [(-2147483648, -2147483639), (-2147483638, -1), (0, 0), (1, 9), (10, 2147483647)] [(-2147483648, 2147483647)] [(-2147483648, 2147483647)] := bx_all (by decide +kernel)
theorem bt_22_12 : bx_A 22 [(11, 11)] [(-2147483648, -2147483639), (-2147483638, -1), (0, 0), (1, 9), (10, 2147483647)] [(-2147483648, 2147483647)] [(-2147483648, 2147483647)] := bx_all (by decide +kernel)
theorem bt_22_13 : bx_A 22 [(12, 12)] [(-2147483648, -2147483639), (-2147483638, -1), (0, 0), (1, 9), (10, 2147483647)] [(-2147483648, 2147483647)] [(-2147483648, 2147483647)] := bx_all (by decide +kernel)
theorem bt_22_14 : bx_A 22 [(13, 2147483647)] [(-2147483648, -2147483639), (-2147483638, -1), (0, 0), (1, 9), (10, 2147483647)] [(-2147483648, 2147483647)] [(-2147483648, 2147483647)] := bx_all (by decide +kernel)
theorem bt_23 : bx_A 23 [(-2147483648, 2147483647)] [(-2147483648, 2147483647)] [(-2147483648, 2147483647)] [(-2147483648, 2147483647)] := bx_all (by decide +kernel)
theorem bt_24 : bx_A 24 [(-2147483648, -1), (0, 2147483647)] [(-2147483648, 2147483647)] [(-2147483648, 2147483647)] [(-2147483648, 2147483647)] := bx_all (by decide +kernel)
theorem bt_25 : bx_A 25 [(-2147483648, -1), (0, 2147483647)] [(-2147483648, 2147483647)] [(-2147483648, 2147483647)] [(-2147483648, 2147483647)] := bx_all (by decide +kernel)
theorem bt_26_0 : bx_A 26 [(-2147483648, 0), (1, 3), (4, 2147483647)] [(-2147483648, -1)] [(-2147483648, -1), (0, 0), (1, 1), (2, 2147483647)] [(-2147483648, 2147483647)] := bx_all (by decide +kernel)
theorem bt_26_1_0 : bx_A 26 [(-2147483648, 0), (1, 3), (4, 2147483647)] [(0, 0)] [(-2147483648, -1)] [(-2147483648, 2147483647)] := bx_all (by decide +kernel)
theorem bt_26_1_1 : bx_A 26 [(-2147483648, 0), (1, 3), (4, 2147483647)] [(0, 0)] [(0, 0)] [(-2147483648, 2147483647)] := bx_all (by decide +kernel)
theorem bt_26_1_2 : bx_A 26 [(-2147483648, 0), (1, 3), (4, 2147483647)] [(0, 0)] [(1, 1)] [(-2147483648, 2147483647)] := bx_all (by decide +kernel)
theorem bt_26_1_3 : bx_A 26 [(-2147483648, 0), (1, 3), (4, 2147483647)] [(0, 0)] [(2, 2147483647)] [(-2147483648, 2147483647)] := bx_all (by decide +kernel)
theorem bt_26_1 : bx_A 26 [(-2147483648, 0), (1, 3), (4, 2147483647)] [(0, 0)] [(-2147483648, -1), (0, 0), (1, 1), (2, 2147483647)] [(-2147483648, 2147483647)] := bx_app3 bt_26_1_0 (bx_app3 bt_26_1_1 (bx_app3 bt_26_1_2 bt_26_1_3))
theorem bt_26_2_0 : bx_A 26 [(-2147483648, 0), (1, 3), (4, 2147483647)] [(1, 1)] [(-2147483648, -1)] [(-2147483648, 2147483647)] := bx_all (by decide +kernel)
theorem bt_26_2_1 : bx_A 26 [(-2147483648, 0), (1, 3), (4, 2147483647)] [(1, 1)] [(0, 0)] [(-2147483648, 2147483647)] := bx_all (by decide +kernel)
theorem bt_26_2_2 : bx_A 26 [(-2147483648, 0), (1, 3), (4, 2147483647)] [(1, 1)] [(1, 1)] [(-2147483648, 2147483647)] := bx_all (by decide +kernel)
theorem bt_26_2_3 : bx_A 26 [(-2147483648, 0), (1, 3), (4, 2147483647)] [(1, 1)] [(2, 2147483647)] [(-2147483648, 2147483647)] := bx_all (by decide +kernel)
theorem bt_26_2 : bx_A 26 [(-2147483648, 0), (1, 3), (4, 2147483647)] [(1, 1)] [(-2147483648, -1), (0, 0), (1, 1), (2, 2147483647)] [(-2147483648, 2147483647)] := bx_app3 bt_26_2_0 (bx_app3 bt_26_2_1 (bx_app3 bt_26_2_2 bt_26_2_3))
theorem bt_26_3_0 : bx_A 26 [(-2147483648, 0), (1, 3), (4, 2147483647)] [(2, 2)] [(-2147483648, -1)] [(-2147483648, 2147483647)] := bx_all (by decide +kernel)
theorem bt_26_3_1 : bx_A 26 [(-2147483648, 0), (1, 3), (4, 2147483647)] [(2, 2)] [(0, 0)] [(-2147483648, 2147483647)] := bx_all (by decide +kernel)
end
section
/-! boxes, checked by runs of the interval machine -/
theorem bt_26_3_2 : bx_A 26 [(-2147483648, 0), (1, 3), (4, 2147483647)] [(2, 2)] [(1, 1)] [(-2147483648, 2147483647)] := bx_all (by decide +kernel)
theorem bt_26_3_3 : bx_A 26 [(-2147483648, 0), (1, 3), (4, 2147483647)] [(2, 2)] [(2, 2147483647)] [(-2147483648, 2147483647)] := bx_all (by decide +kernel)
theorem bt_26_3 : bx_A 26 [(-2147483648, 0), (1, 3), (4, 2147483647)] [(2, 2)] [(-2147483648, -1), (0, 0), (1, 1), (2, 2147483647)] [(-2147483648, 2147483647)] := bx_app3 bt_26_3_0 (bx_app3 bt_26_3_1 (bx_app3 bt_26_3_2 bt_26_3_3))
theorem bt_26_4_0 : bx_A 26 [(-2147483648, 0), (1, 3), (4, 2147483647)] [(3, 3)] [(-2147483648, -1)] [(-2147483648, 2147483647)] := bx_all (by decide +kernel)
theorem bt_26_4_1 : bx_A 26 [(-2147483648, 0), (1, 3), (4, 2147483647)] [(3, 3)] [(0, 0)] [(-2147483648, 2147483647)] := bx_all (by decide +kernel)
theorem bt_26_4_2 : bx_A 26 [(-2147483648, 0), (1, 3), (4, 2147483647)] [(3, 3)] [(1, 1)] [(-2147483648, 2147483647)] := bx_all (by decide +kernel)
theorem bt_26_4_3 : bx_A 26 [(-2147483648, 0), (1, 3), (4, 2147483647)] [(3, 3)] [(2, 2147483647)] [(-2147483648, 2147483647)] := bx_all (by decide +kernel)
theorem bt_26_4 : bx_A 26 [(-2147483648, 0), (1, 3), (4, 2147483647)] [(3, 3)] [(-2147483648, -1), (0, 0), (1, 1), (2, 2147483647)] [(-2147483648, 2147483647)] := bx_app3 bt_26_4_0 (bx_app3 bt_26_4_1 (bx_app3 bt_26_4_2 bt_26_4_3))
theorem bt_26_5_0 : bx_A 26 [(-2147483648, 0), (1, 3), (4, 2147483647)] [(4, 4)] [(-2147483648, -1)] [(-2147483648, 2147483647)] := bx_all (by decide +kernel)
theorem bt_26_5_1 : bx_A 26 [(-2147483648, 0), (1, 3), (4, 2147483647)] [(4, 4)] [(0, 0)] [(-2147483648, 2147483647)] := bx_all (by decide +kernel)
end
section
/-! boxes, checked by runs of the interval machine -/
theorem bt_26_5_2 : bx_A 26 [(-2147483648, 0), (1, 3), (4, 2147483647)] [(4, 4)] [(1, 1)] [(-2147483648, 2147483647)] := bx_all (by decide +kernel)
theorem bt_26_5_3 : bx_A 26 [(-2147483648, 0), (1, 3), (4, 2147483647)] [(4, 4)] [(2, 2147483647)] [(-2147483648, 2147483647)] := bx_all (by decide +kernel)
theorem bt_26_5 : bx_A 26 [(-2147483648, 0), (1, 3), (4, 2147483647)] [(4, 4)] [(-2147483648, -1), (0, 0), (1, 1), (2, 2147483647)] [(-2147483648, 2147483647)] := bx_app3 bt_26_5_0 (bx_app3 bt_26_5_1 (bx_app3 bt_26_5_2 bt_26_5_3))
theorem bt_26_6_0 : bx_A 26 [(-2147483648, 0), (1, 3), (4, 2147483647)] [(5, 5)] [(-2147483648, -1)] [(-2147483648, 2147483647)] := bx_all (by decide +kernel)
theorem bt_26_6_1 : bx_A 26 [(-2147483648, 0), (1, 3), (4, 2147483647)] [(5, 5)] [(0, 0)] [(-2147483648, 2147483647)] := bx_all (by decide +kernel)
end
section
/-! boxes, checked by runs of the interval machine -/
theorem bt_26_6_2 : bx_A 26 [(-2147483648, 0), (1, 3), (4, 2147483647)] [(5, 5)] [(1, 1)] [(-2147483648, 2147483647)] := bx_all (by decide +kernel)
theorem bt_26_6_3 : bx_A 26 [(-2147483648, 0), (1, 3), (4, 2147483647)] [(5, 5)] [(2, 2147483647)] [(-2147483648, 2147483647)] := bx_all (by decide +kernel)
theorem bt_26_6 : bx_A 26 [(-2147483648, 0), (1, 3), (4, 2147483647)] [(5, 5)] [(-2147483648, -1), (0, 0), (1, 1), (2, 2147483647)] [(-2147483648, 2147483647)] := bx_app3 bt_26_6_0 (bx_app3 bt_26_6_1 (bx_app3 bt_26_6_2 bt_26_6_3))
theorem bt_26_7_0 : bx_A 26 [(-2147483648, 0), (1, 3), (4, 2147483647)] [(6, 6)] [(-2147483648, -1)] [(-2147483648, 2147483647)] := bx_all (by decide +kernel)
theorem bt_26_7_1 : bx_A 26 [(-2147483648, 0), (1, 3), (4, 2147483647)] [(6, 6)] [(0, 0)] [(-2147483648, 2147483647)] := bx_all (by decide +kernel)
end
section
/-! boxes, checked by runs of the interval machine -/
theorem bt_26_7_2 : bx_A 26 [(-2147483648, 0), (1, 3), (4, 2147483647)] [(6, 6)] [(1, 1)] [(-2147483648, 2147483647)] := bx_all (by decide +kernel)
theorem bt_26_7_3 : bx_A 26 [(-2147483648, 0), (1, 3), (4, 2147483647)] [(6, 6)] [(2, 2147483647)] [(-2147483648, 2147483647)] := bx_all (by decide +kernel)
theorem bt_26_7 : bx_A 26 [(-2147483648, 0), (1, 3), (4, 2147483647)] [(6, 6)] [(-2147483648, -1), (0, 0), (1, 1), (2, 2147483647)] [(-2147483648, 2147483647)] := bx_app3 bt_26_7_0 (bx_app3 bt_26_7_1 (bx_app3 bt_26_7_2 bt_26_7_3))
theorem bt_26_8_0 : bx_A 26 [(-2147483648, 0), (1, 3), (4, 2147483647)] [(7, 7)] [(-2147483648, -1)] [(-2147483648, 2147483647)] := bx_all (by decide +kernel)
theorem bt_26_8_1 : bx_A 26 [(-2147483648, 0), (1, 3), (4, 2147483647)] [(7, 7)] [(0, 0)] [(-2147483648, 2147483647)] := bx_all (by decide +kernel)
end
section
/-! boxes, checked by runs of the interval machine -/
theorem bt_26_8_2 : bx_A 26 [(-2147483648, 0), (1, 3), (4, 2147483647)] [(7, 7)] [(1, 1)] [(-2147483648, 2147483647)] := bx_all (by decide +kernel)
theorem bt_26_8_3 : bx_A 26 [(-2147483648, 0), (1, 3), (4, 2147483647)] [(7, 7)] [(2, 2147483647)] [(-2147483648, 2147483647)] := bx_all (by decide +kernel)
theorem bt_26_8 : bx_A 26 [(-2147483648, 0), (1, 3), (4, 2147483647)] [(7, 7)] [(-2147483648, -1), (0, 0), (1, 1), (2, 2147483647)] [(-2147483648, 2147483647)] := bx_app3 bt_26_8_0 (bx_app3 bt_26_8_1 (bx_app3 bt_26_8_2 bt_26_8_3))
theorem bt_26_9_0 : bx_A 26 [(-2147483648, 0), (1, 3), (4, 2147483647)] [(8, 8)] [(-2147483648, -1)] [(-2147483648, 2147483647)] := bx_all (by decide +kernel)
end
section
/-! boxes, checked by runs of the interval machine -/
theorem bt_26_9_1 : bx_A 26 [(-2147483648, 0), (1, 3), (4, 2147483647)] [(8, 8)] [(0, 0)] [(-2147483648, 2147483647)] := bx_all (by decide +kernel)
end
section
/-! boxes, checked by runs of the interval machine -/
theorem bt_26_9_2 : bx_A 26 [(-2147483648, 0), (1, 3), (4, 2147483647)] [(8, 8)] [(1, 1)] [(-2147483648, 2147483647)] := bx_all (by decide +kernel)
theorem bt_26_9_3 : bx_A 26 [(-2147483648, 0), (1, 3), (4, 2147483647)] [(8, 8)] [(2, 2147483647)] [(-2147483648, 2147483647)] := bx_all (by decide +kernel)
theorem bt_26_9 : bx_A 26 [(-2147483648, 0), (1, 3), (4, 2147483647)] [(8, 8)] [(-2147483648, -1), (0, 0), (1, 1), (2, 2147483647)] [(-2147483648, 2147483647)] := bx_app3 bt_26_9_0 (bx_app3 bt_26_9_1 (bx_app3 bt_26_9_2 bt_26_9_3))
theorem bt_26_10_0 : bx_A 26 [(-2147483648, 0), (1, 3), (4, 2147483647)] [(9, 9)] [(-2147483648, -1)] [(-2147483648, 2147483647)] := bx_all (by decide +kernel)
end
section
/-! boxes, checked by runs of the interval machine -/
theorem bt_26_10_1 : bx_A 26 [(-2147483648, 0), (1, 3), (4, 2147483647)] [(9, 9)] [(0, 0)] [(-2147483648, 2147483647)] := bx_all (by decide +kernel)
end
section
/-! boxes, checked by runs of the interval machine -/
theorem bt_26_10_2 : bx_A 26 [(-2147483648, 0), (1, 3), (4, 2147483647)] [(9, 9)] [(1, 1)] [(-2147483648, 2147483647)] := bx_all (by decide +kernel)
theorem bt_26_10_3 : bx_A 26 [(-2147483648, 0), (1, 3), (4, 2147483647)] [(9, 9)] [(2, 2147483647)] [(-2147483648, 2147483647)] := bx_all (by decide +kernel)
theorem bt_26_10 : bx_A 26 [(-2147483648, 0), (1, 3), (4, 2147483647)] [(9, 9)] [(-2147483648, -1), (0, 0), (1, 1), (2, 2147483647)] [(-2147483648, 2147483647)] := bx_app3 bt_26_10_0 (bx_app3 bt_26_10_1 (bx_app3 bt_26_10_2 bt_26_10_3))
theorem bt_26_11_0 : bx_A 26 [(-2147483648, 0), (1, 3), (4, 2147483647)] [(10, 10)] [(-2147483648, -1)] [(-2147483648, 2147483647)] := bx_all (by decide +kernel)
end
section
/-! boxes, checked by runs of the interval machine -/
theorem bt_26_11_1 : bx_A 26 [(-2147483648, 0), (1, 3), (4, 2147483647)] [(10, 10)] [(0, 0)] [(-2147483648, 2147483647)] := bx_all (by decide +kernel)
end
section
/-! boxes, checked by runs of the interval machine -/
theorem bt_26_11_2 : bx_A 26 [(-2147483648, 0), (1, 3), (4, 2147483647)] [(10, 10)] [(1, 1)] [(-2147483648, 2147483647)] := bx_all (by decide +kernel)
theorem bt_26_11_3 : bx_A 26 [(-2147483648, 0), (1, 3), (4, 2147483647)] [(10, 10)] [(2, 2147483647)] [(-2147483648, 2147483647)] := bx_all (by decide +kernel)
theorem bt_26_11 : bx_A 26 [(-2147483648, 0), (1, 3), (4, 2147483647)] [(10, 10)] [(-2147483648, -1), (0, 0), (1, 1), (2, 2147483647)] [(-2147483648, 2147483647)] := bx_app3 bt_26_11_0 (bx_app3 bt_26_11_1 (bx_app3 bt_26_11_2 bt_26_11_3))
theorem bt_26_12_0 : bx_A 26 [(-2147483648, 0), (1, 3), (4, 2147483647)] [(11, 11)] [(-2147483648, -1)] [(-2147483648, 2147483647)] := bx_all (by decide +kernel)
end
section
/-! boxes, checked by runs of the interval machine -/
theorem bt_26_12_1 : bx_A 26 [(-2147483648, 0), (1, 3), (4, 2147483647)] [(11, 11)] [(0, 0)] [(-2147483648, 2147483647)] := bx_all (by decide +kernel)
end
section
/-! boxes, checked by runs of the interval machine -/
theorem bt_26_12_2 : bx_A 26 [(-2147483648, 0), (1, 3), (4, 2147483647)] [(11, 11)] [(1, 1)] [(-2147483648, 2147483647)] := bx_all (by decide +kernel)
theorem bt_26_12_3 : bx_A 26 [(-2147483648, 0), (1, 3), (4, 2147483647)] [(11, 11)] [(2, 2147483647)] [(-2147483648, 2147483647)] := bx_all (by decide +kernel)
theorem bt_26_12 : bx_A 26 [(-2147483648, 0), (1, 3), (4, 2147483647)] [(11, 11)] [(-2147483648, -1), (0, 0), (1, 1), (2, 2147483647)] [(-2147483648, 2147483647)] := bx_app3 bt_26_12_0 (bx_app3 bt_26_12_1 (bx_app3 bt_26_12_2 bt_26_12_3))
theorem bt_26_13_0 : bx_A 26 [(-2147483648, 0), (1, 3), (4, 2147483647)] [(12, 12)] [(-2147483648, -1)] [(-2147483648, 2147483647)] := bx_all (by decide +kernel)
end
section
/-! boxes, checked by runs of the interval machine -/
theorem bt_26_13_1 : bx_A 26 [(-2147483648, 0), (1, 3), (4, 2147483647)] [(12, 12)] [(0, 0)] [(-2147483648, 2147483647)] := bx_all (by decide +kernel)
end
section
/-! boxes, checked by runs of the interval machine -/
theorem bt_26_13_2 : bx_A 26 [(-2147483648, 0), (1, 3), (4, 2147483647)] [(12, 12)] [(1, 1)] [(-2147483648, 2147483647)] := bx_all (by decide +kernel)
theorem bt_26_13_3 : bx_A 26 [(-2147483648, 0), (1, 3), (4, 2147483647)] [(12, 12)] [(2, 2147483647)] [(-2147483648, 2147483647)] := bx_all (by decide +kernel)
theorem bt_26_13 : bx_A 26 [(-2147483648, 0), (1, 3), (4, 2147483647)] [(12, 12)] [(-2147483648, -1), (0, 0), (1, 1), (2, 2147483647)] [(-2147483648, 2147483647)] := bx_app3 bt_26_13_0 (bx_app3 bt_26_13_1 (bx_app3 bt_26_13_2 bt_26_13_3))
theorem bt_26_14 : bx_A 26 [(-2147483648, 0), (1, 3), (4, 2147483647)] [(13, 2147483647)] [(-2147483648, -1), (0, 0), (1, 1), (2, 2147483647)] [(-2147483648, 2147483647)] := bx_all (by decide +kernel)
theorem bt_27_0 : bx_A 27 [(-2147483648, -1), (0, 10), (11, 2147483647)] [(-2147483648, -1)] [(-2147483648, -1), (0, 0), (1, 1), (2, 2147483647)] [(-2147483648, 2147483647)] := bx_all (by decide +kernel)
theorem bt_27_1 : bx_A 27 [(-2147483648, -1), (0, 10), (11, 2147483647)] [(0, 0)] [(-2147483648, -1), (0, 0), (1, 1), (2, 2147483647)] [(-2147483648, 2147483647)] := bx_all (by decide +kernel)
theorem bt_27_2 : bx_A 27 [(-2147483648, -1), (0, 10), (11, 2147483647)] [(1, 1)] [(-2147483648, -1), (0, 0), (1, 1), (2, 2147483647)] [(-2147483648, 2147483647)] := bx_all (by decide +kernel)
end
section
/-! boxes, checked by runs of the interval machine -/
theorem bt_27_3 : bx_A 27 [(-2147483648, -1), (0, 10), (11, 2147483647)] [(2, 2)] [(-2147483648, -1), (0, 0), (1, 1), (2, 2147483647)] [(-2147483648, 2147483647)] := bx_all (by decide +kernel)
theorem bt_27_4 : bx_A 27 [(-2147483648, -1), (0, 10), (11, 2147483647)] [(3, 3)] [(-2147483648, -1), (0, 0), (1, 1), (2, 2147483647)] [(-2147483648, 2147483647)] := bx_all (by decide +kernel)
theorem bt_27_5 : bx_A 27 [(-2147483648, -1), (0, 10), (11, 2147483647)] [(4, 4)] [(-2147483648, -1), (0, 0), (1, 1), (2, 2147483647)] [(-2147483648, 2147483647)] := bx_all (by decide +kernel)
theorem bt_27_6 : bx_A 27 [(-2147483648, -1), (0, 10), (11, 2147483647)] [(5, 5)] [(-2147483648, -1), (0, 0), (1, 1), (2, 2147483647)] [(-2147483648, 2147483647)] := bx_all (by decide +kernel)
theorem bt_27_7 : bx_A 27 [(-2147483648, -1), (0, 10), (11, 2147483647)] [(6, 6)] [(-2147483648, -1), (0, 0), (1, 1), (2, 2147483647)] [(-2147483648, 2147483647)] := bx_all (by decide +kernel)
theorem bt_27_8 : bx_A 27 [(-2147483648, -1), (0, 10), (11, 2147483647)] [(7, 7)] [(-2147483648, -1), (0, 0), (1, 1), (2, 2147483647)] [(-2147483648, 2147483647)] := bx_all (by decide +kernel)
theorem bt_27_9 : bx_A 27 [(-2147483648, -1), (0, 10), (11, 2147483647)] [(8, 8)] [(-2147483648, -1), (0, 0), (1, 1), (2, 2147483647)] [(-2147483648, 2147483647)] := bx_all (by decide +kernel)
theorem bt_27_10 : bx_A 27 [(-2147483648, -1), (0, 10), (11, 2147483647)] [(9, 9)] [(-2147483648, -1), (0, 0), (1, 1), (2, 2147483647)] [(-2147483648, 2147483647)] := bx_all (by decide +kernel)
theorem bt_27_11 : bx_A 27 [(-2147483648, -1), (0, 10), (11, 2147483647)] [(10, 10)] [(-2147483648, -1), (0, 0), (1, 1), (2, 2147483647)] [(-2147483648, 2147483647)] := bx_all (by decide +kernel)
theorem bt_27_12 : bx_A 27 [(-2147483648, -1), (0, 10), (11, 2147483647)] [(11, 11)] [(-2147483648, -1), (0, 0), (1, 1), (2, 2147483647)] [(-2147483648, 2147483647)] := bx_all (by decide +kernel)
theorem bt_27_13 : bx_A 27 [(-2147483648, -1), (0, 10), (11, 2147483647)] [(12, 12)] [(-2147483648, -1), (0, 0), (1, 1), (2, 2147483647)] [(-2147483648, 2147483647)] := bx_all (by decide +kernel)
theorem bt_27_14 : bx_A 27 [(-2147483648, -1), (0, 10), (11, 2147483647)] [(13, 2147483647)] [(-2147483648, -1), (0, 0), (1, 1), (2, 2147483647)] [(-2147483648, 2147483647)] := bx_all (by decide +kernel)
theorem bt_28 : bx_A 28 [(-2147483648, -1), (0, 2147483647)] [(-2147483648, 2147483647)] [(-2147483648, 2147483647)] [(-2147483648, 2147483647)] := bx_all (by decide +kernel)
theorem bt_29 : bx_A 29 [(-2147483648, -1), (0, 0), (1, 2147483647)] [(-2147483648, 2147483647)] [(-2147483648, 2147483647)] [(-2147483648, 2147483647)] := bx_all (by decide +kernel)
theorem bt_30 : bx_A 30 [(-2147483648, -2147483639), (-2147483638, -1), (0, 0), (1, 9), (10, 2147483647)] [(-2147483648, 2147483647)] [(-2147483648, 2147483647)] [(-2147483648, 2147483647)] := bx_all (by decide +kernel)
theorem bt_31 : bx_A 31 [(-2147483648, 2147483647)] [(-2147483648, 0), (1, 60), (61, 2147483647)] [(-2147483648, 2147483647)] [(-2147483648, 2147483647)] := bx_all (by decide +kernel)
theorem bt_32 : bx_A 32 [(-2147483648, -1), (0, 0), (1, 1), (2, 2147483647)] [(-2147483648, 2147483647)] [(-2147483648, 2147483647)] [(-2147483648, 2147483647)] := bx_all (by decide +kernel)
theorem bt_33 : bx_A 33 [(-2147483648, -1), (0, 0), (1, 1), (2, 2147483647)] [(-2147483648, 2147483647)] [(-2147483648, 2147483647)] [(-2147483648, 2147483647)] := bx_all (by decide +kernel)
end
section
/-! boxes, checked by runs of the interval machine -/
theorem bt_34 : bx_A 34 [(-2147483648, -1), (0, 0), (1, 1), (2, 2), (3, 3), (4, 2147483647)] [(-2147483648, -1), (0, 2), (3, 2147483647)] [(-2147483648, -1), (0, 40), (41, 2147483647)] [(-2147483648, 2147483647)] := bx_all (by decide +kernel)
theorem bt_35 : bx_A 35 [(-2147483648, -1), (0, 0), (1, 1), (2, 2), (3, 3), (4, 2147483647)] [(-2147483648, 2147483647)] [(-2147483648, 2147483647)] [(-2147483648, 2147483647)] := bx_all (by decide +kernel)
theorem bt_36 : bx_A 36 [(-2147483648, -1), (0, 0), (1, 1), (2, 2), (3, 3), (4, 2147483647)] [(-2147483648, -1), (0, 2), (3, 2147483647)] [(-2147483648, 2147483647)] [(-2147483648, -1), (0, 0), (1, 20), (21, 2147483647)] := bx_all (by decide +kernel)
theorem bt_37 : bx_A 37 [(-2147483648, 2147483647)] [(-2147483648, 2147483647)] [(-2147483648, 2147483647)] [(-2147483648, 2147483647)] := bx_all (by decide +kernel)
theorem bt_38 : bx_A 38 [(-2147483648, -1), (0, 0), (1, 1), (2, 2), (3, 3), (4, 4), (5, 5), (6, 6), (7, 2147483647)] [(-2147483648, 2147483647)] [(-2147483648, 2147483647)] [(-2147483648, 2147483647)] := bx_all (by decide +kernel)
end
section
/-! ALL BOXES. -/
def bp_0_1 : List am_I := [(-2147483648, -1), (0, 127), (128, 2147483647)]
def bp_0_2 : List am_I := [(-2147483648, 2147483647)]
def bp_0_3 : List am_I := [(-2147483648, 2147483647)]
def bp_0_4 : List am_I := [(-2147483648, 2147483647)]
theorem bf_0 : bx_A 0 bp_0_1 bp_0_2 bp_0_3 bp_0_4 := bt_0
theorem bc_0 : bx_cov (-2147483648) bp_0_1 = true ∧ bx_cov (-2147483648) bp_0_2 = true ∧ bx_cov (-2147483648) bp_0_3 = true ∧ bx_cov (-2147483648) bp_0_4 = true := by decide +kernel
def bp_1_1 : List am_I := [(-2147483648, -1), (0, 0), (1, 2147483647)]
def bp_1_2 : List am_I := [(-2147483648, 2147483647)]
def bp_1_3 : List am_I := [(-2147483648, 2147483647)]
def bp_1_4 : List am_I := [(-2147483648, 2147483647)]
theorem bf_1 : bx_A 1 bp_1_1 bp_1_2 bp_1_3 bp_1_4 := bt_1
theorem bc_1 : bx_cov (-2147483648) bp_1_1 = true ∧ bx_cov (-2147483648) bp_1_2 = true ∧ bx_cov (-2147483648) bp_1_3 = true ∧ bx_cov (-2147483648) bp_1_4 = true := by decide +kernel
def bp_2_1 : List am_I := [(-2147483648, 2147483647)]
def bp_2_2 : List am_I := [(-2147483648, 2147483647)]
def bp_2_3 : List am_I := [(-2147483648, 2147483647)]
def bp_2_4 : List am_I := [(-2147483648, 2147483647)]
theorem bf_2 : bx_A 2 bp_2_1 bp_2_2 bp_2_3 bp_2_4 := bt_2
theorem bc_2 : bx_cov (-2147483648) bp_2_1 = true ∧ bx_cov (-2147483648) bp_2_2 = true ∧ bx_cov (-2147483648) bp_2_3 = true ∧ bx_cov (-2147483648) bp_2_4 = true := by decide +kernel
def bp_3_1 : List am_I := [(-2147483648, 2147483647)]
def bp_3_2 : List am_I := [(-2147483648, 2147483647)]
def bp_3_3 : List am_I := [(-2147483648, 2147483647)]
def bp_3_4 : List am_I := [(-2147483648, 2147483647)]
theorem bf_3 : bx_A 3 bp_3_1 bp_3_2 bp_3_3 bp_3_4 := bt_3
theorem bc_3 : bx_cov (-2147483648) bp_3_1 = true ∧ bx_cov (-2147483648) bp_3_2 = true ∧ bx_cov (-2147483648) bp_3_3 = true ∧ bx_cov (-2147483648) bp_3_4 = true := by decide +kernel
def bp_4_1 : List am_I := [(-2147483648, -2147483639), (-2147483638, -1), (0, 0), (1, 1), (2, 2), (3, 3), (4, 4), (5, 5), (6, 10), (11, 11), (12, 12), (13, 13), (14, 14), (15, 2147483647)]
def bp_4_2 : List am_I := [(-2147483648, 2147483647)]
def bp_4_3 : List am_I := [(-2147483648, 2147483647)]
def bp_4_4 : List am_I := [(-2147483648, 2147483647)]
theorem bf_4 : bx_A 4 bp_4_1 bp_4_2 bp_4_3 bp_4_4 := bt_4
theorem bc_4 : bx_cov (-2147483648) bp_4_1 = true ∧ bx_cov (-2147483648) bp_4_2 = true ∧ bx_cov (-2147483648) bp_4_3 = true ∧ bx_cov (-2147483648) bp_4_4 = true := by decide +kernel
def bp_5_1 : List am_I := [(-2147483648, -1), (0, 2147483647)]
def bp_5_2 : List am_I := [(-2147483648, 2147483647)]
def bp_5_3 : List am_I := [(-2147483648, 2147483647)]
def bp_5_4 : List am_I := [(-2147483648, 2147483647)]
theorem bf_5 : bx_A 5 bp_5_1 bp_5_2 bp_5_3 bp_5_4 := bt_5
theorem bc_5 : bx_cov (-2147483648) bp_5_1 = true ∧ bx_cov (-2147483648) bp_5_2 = true ∧ bx_cov (-2147483648) bp_5_3 = true ∧ bx_cov (-2147483648) bp_5_4 = true := by decide +kernel
def bp_6_1 : List am_I := [(-2147483648, -1), (0, 8), (9, 2147483647)]
def bp_6_2 : List am_I := [(-2147483648, 2147483647)]
def bp_6_3 : List am_I := [(-2147483648, 2147483647)]
def bp_6_4 : List am_I := [(-2147483648, 2147483647)]
theorem bf_6 : bx_A 6 bp_6_1 bp_6_2 bp_6_3 bp_6_4 := bt_6
theorem bc_6 : bx_cov (-2147483648) bp_6_1 = true ∧ bx_cov (-2147483648) bp_6_2 = true ∧ bx_cov (-2147483648) bp_6_3 = true ∧ bx_cov (-2147483648) bp_6_4 = true := by decide +kernel
def bp_7_1 : List am_I := [(-2147483648, -1), (0, 2147483647)]
def bp_7_2 : List am_I := [(-2147483648, 2147483647)]
def bp_7_3 : List am_I := [(-2147483648, 2147483647)]
def bp_7_4 : List am_I := [(-2147483648, 2147483647)]
theorem bf_7 : bx_A 7 bp_7_1 bp_7_2 bp_7_3 bp_7_4 := bt_7
theorem bc_7 : bx_cov (-2147483648) bp_7_1 = true ∧ bx_cov (-2147483648) bp_7_2 = true ∧ bx_cov (-2147483648) bp_7_3 = true ∧ bx_cov (-2147483648) bp_7_4 = true := by decide +kernel
def bp_8_1 : List am_I := [(-2147483648, -1), (0, 2147483647)]
def bp_8_2 : List am_I := [(-2147483648, 2147483647)]
def bp_8_3 : List am_I := [(-2147483648, 2147483647)]
def bp_8_4 : List am_I := [(-2147483648, 2147483647)]
theorem bf_8 : bx_A 8 bp_8_1 bp_8_2 bp_8_3 bp_8_4 := bt_8
theorem bc_8 : bx_cov (-2147483648) bp_8_1 = true ∧ bx_cov (-2147483648) bp_8_2 = true ∧ bx_cov (-2147483648) bp_8_3 = true ∧ bx_cov (-2147483648) bp_8_4 = true := by decide +kernel
def bp_9_1 : List am_I := [(-2147483648, -1), (0, 2147483647)]
def bp_9_2 : List am_I := [(-2147483648, -1), (0, 0), (1, 2147483647)]
def bp_9_3 : List am_I := [(-2147483648, 2147483647)]
def bp_9_4 : List am_I := [(-2147483648, 2147483647)]
theorem bf_9 : bx_A 9 bp_9_1 bp_9_2 bp_9_3 bp_9_4 := bt_9
theorem bc_9 : bx_cov (-2147483648) bp_9_1 = true ∧ bx_cov (-2147483648) bp_9_2 = true ∧ bx_cov (-2147483648) bp_9_3 = true ∧ bx_cov (-2147483648) bp_9_4 = true := by decide +kernel
def bp_10_1 : List am_I := [(-2147483648, -1), (0, 2147483647)]
def bp_10_2 : List am_I := [(-2147483648, 2147483647)]
def bp_10_3 : List am_I := [(-2147483648, 2147483647)]
def bp_10_4 : List am_I := [(-2147483648, 2147483647)]
theorem bf_10 : bx_A 10 bp_10_1 bp_10_2 bp_10_3 bp_10_4 := bt_10
theorem bc_10 : bx_cov (-2147483648) bp_10_1 = true ∧ bx_cov (-2147483648) bp_10_2 = true ∧ bx_cov (-2147483648) bp_10_3 = true ∧ bx_cov (-2147483648) bp_10_4 = true := by decide +kernel
def bp_11_1 : List am_I := [(-2147483648, -1), (0, 0), (1, 1), (2, 2), (3, 3), (4, 4), (5, 5), (6, 6), (7, 7), (8, 8), (9, 2147483647)]
def bp_11_2 : List am_I := [(-2147483648, -1), (0, 0), (1, 2147483647)]
def bp_11_3 : List am_I := [(-2147483648, 2147483647)]
def bp_11_4 : List am_I := [(-2147483648, 2147483647)]
theorem bf_11 : bx_A 11 bp_11_1 bp_11_2 bp_11_3 bp_11_4 := bt_11
theorem bc_11 : bx_cov (-2147483648) bp_11_1 = true ∧ bx_cov (-2147483648) bp_11_2 = true ∧ bx_cov (-2147483648) bp_11_3 = true ∧ bx_cov (-2147483648) bp_11_4 = true := by decide +kernel
def bp_12_1 : List am_I := [(-2147483648, 0), (1, 1), (2, 2), (3, 3), (4, 4), (5, 2147483647)]
def bp_12_2 : List am_I := [(-2147483648, -1), (0, 9), (10, 2147483647)]
def bp_12_3 : List am_I := [(-2147483648, 2147483647)]
def bp_12_4 : List am_I := [(-2147483648, 2147483647)]
theorem bf_12 : bx_A 12 bp_12_1 bp_12_2 bp_12_3 bp_12_4 := bt_12
theorem bc_12 : bx_cov (-2147483648) bp_12_1 = true ∧ bx_cov (-2147483648) bp_12_2 = true ∧ bx_cov (-2147483648) bp_12_3 = true ∧ bx_cov (-2147483648) bp_12_4 = true := by decide +kernel
def bp_13_1 : List am_I := [(-2147483648, -1), (0, 4), (5, 2147483647)]
def bp_13_2 : List am_I := [(-2147483648, 2147483647)]
def bp_13_3 : List am_I := [(-2147483648, 2147483647)]
def bp_13_4 : List am_I := [(-2147483648, 2147483647)]
theorem bf_13 : bx_A 13 bp_13_1 bp_13_2 bp_13_3 bp_13_4 := bt_13
theorem bc_13 : bx_cov (-2147483648) bp_13_1 = true ∧ bx_cov (-2147483648) bp_13_2 = true ∧ bx_cov (-2147483648) bp_13_3 = true ∧ bx_cov (-2147483648) bp_13_4 = true := by decide +kernel
def bp_14_1 : List am_I := [(-2147483648, -1), (0, 2147483647)]
def bp_14_2 : List am_I := [(-2147483648, 2147483647)]
def bp_14_3 : List am_I := [(-2147483648, 2147483647)]
def bp_14_4 : List am_I := [(-2147483648, 2147483647)]
theorem bf_14 : bx_A 14 bp_14_1 bp_14_2 bp_14_3 bp_14_4 := bt_14
theorem bc_14 : bx_cov (-2147483648) bp_14_1 = true ∧ bx_cov (-2147483648) bp_14_2 = true ∧ bx_cov (-2147483648) bp_14_3 = true ∧ bx_cov (-2147483648) bp_14_4 = true := by decide +kernel
def bp_15_1 : List am_I := [(-2147483648, -1), (0, 2147483647)]
def bp_15_2 : List am_I := [(-2147483648, 2147483647)]
def bp_15_3 : List am_I := [(-2147483648, 2147483647)]
def bp_15_4 : List am_I := [(-2147483648, 2147483647)]
theorem bf_15 : bx_A 15 bp_15_1 bp_15_2 bp_15_3 bp_15_4 := bt_15
theorem bc_15 : bx_cov (-2147483648) bp_15_1 = true ∧ bx_cov (-2147483648) bp_15_2 = true ∧ bx_cov (-2147483648) bp_15_3 = true ∧ bx_cov (-2147483648) bp_15_4 = true := by decide +kernel
def bp_16_1 : List am_I := [(-2147483648, 2147483647)]
def bp_16_2 : List am_I := [(-2147483648, 2147483647)]
def bp_16_3 : List am_I := [(-2147483648, 2147483647)]
def bp_16_4 : List am_I := [(-2147483648, 2147483647)]
theorem bf_16 : bx_A 16 bp_16_1 bp_16_2 bp_16_3 bp_16_4 := bt_16
theorem bc_16 : bx_cov (-2147483648) bp_16_1 = true ∧ bx_cov (-2147483648) bp_16_2 = true ∧ bx_cov (-2147483648) bp_16_3 = true ∧ bx_cov (-2147483648) bp_16_4 = true := by decide +kernel
def bp_17_1 : List am_I := [(-2147483648, 2147483647)]
def bp_17_2 : List am_I := [(-2147483648, 2147483647)]
def bp_17_3 : List am_I := [(-2147483648, 2147483647)]
def bp_17_4 : List am_I := [(-2147483648, 2147483647)]
theorem bf_17 : bx_A 17 bp_17_1 bp_17_2 bp_17_3 bp_17_4 := bt_17
theorem bc_17 : bx_cov (-2147483648) bp_17_1 = true ∧ bx_cov (-2147483648) bp_17_2 = true ∧ bx_cov (-2147483648) bp_17_3 = true ∧ bx_cov (-2147483648) bp_17_4 = true := by decide +kernel
def bp_18_1 : List am_I := [(-2147483648, -1), (0, 0), (1, 1), (2, 2), (3, 3), (4, 4), (5, 5), (6, 6), (7, 7), (8, 8), (9, 9), (10, 10), (11, 11), (12, 12), (13, 13), (14, 14), (15, 15), (16, 16), (17, 17), (18, 18), (19, 19), (20, 20), (21, 21), (22, 22), (23, 23), (24, 24), (25, 25), (26, 26), (27, 27), (28, 28), (29, 29), (30, 30), (31, 31), (32, 32), (33, 33), (34, 34), (35, 35), (36, 36), (37, 37), (38, 38), (39, 39), (40, 40), (41, 41), (42, 42), (43, 43), (44, 44), (45, 45), (46, 46), (47, 47), (48, 48), (49, 49), (50, 50), (51, 51), (52, 52), (53, 53), (54, 54), (55, 55), (56, 56), (57, 57), (58, 58), (59, 59), (60, 60), (61, 2147483647)]
def bp_18_2 : List am_I := [(-2147483648, 2147483647)]
def bp_18_3 : List am_I := [(-2147483648, 2147483647)]
def bp_18_4 : List am_I := [(-2147483648, 2147483647)]
theorem bf_18 : bx_A 18 bp_18_1 bp_18_2 bp_18_3 bp_18_4 := bx_app1 bt_18_0 (bx_app1 bt_18_1 (bx_app1 bt_18_2 (bt_18_3)))
theorem bc_18 : bx_cov (-2147483648) bp_18_1 = true ∧ bx_cov (-2147483648) bp_18_2 = true ∧ bx_cov (-2147483648) bp_18_3 = true ∧ bx_cov (-2147483648) bp_18_4 = true := by decide +kernel
def bp_19_1 : List am_I := [(-2147483648, -1), (0, 2147483647)]
def bp_19_2 : List am_I := [(-2147483648, 2147483647)]
def bp_19_3 : List am_I := [(-2147483648, 2147483647)]
def bp_19_4 : List am_I := [(-2147483648, 2147483647)]
theorem bf_19 : bx_A 19 bp_19_1 bp_19_2 bp_19_3 bp_19_4 := bt_19
theorem bc_19 : bx_cov (-2147483648) bp_19_1 = true ∧ bx_cov (-2147483648) bp_19_2 = true ∧ bx_cov (-2147483648) bp_19_3 = true ∧ bx_cov (-2147483648) bp_19_4 = true := by decide +kernel
def bp_20_1 : List am_I := [(-2147483648, 2147483647)]
def bp_20_2 : List am_I := [(-2147483648, 2147483647)]
def bp_20_3 : List am_I := [(-2147483648, 2147483647)]
def bp_20_4 : List am_I := [(-2147483648, 2147483647)]
theorem bf_20 : bx_A 20 bp_20_1 bp_20_2 bp_20_3 bp_20_4 := bt_20
theorem bc_20 : bx_cov (-2147483648) bp_20_1 = true ∧ bx_cov (-2147483648) bp_20_2 = true ∧ bx_cov (-2147483648) bp_20_3 = true ∧ bx_cov (-2147483648) bp_20_4 = true := by decide +kernel
def bp_21_1 : List am_I := [(-2147483648, -1), (0, 0), (1, 1), (2, 2147483647)]
def bp_21_2 : List am_I := [(-2147483648, 2147483647)]
def bp_21_3 : List am_I := [(-2147483648, 2147483647)]
def bp_21_4 : List am_I := [(-2147483648, 2147483647)]
theorem bf_21 : bx_A 21 bp_21_1 bp_21_2 bp_21_3 bp_21_4 := bt_21
theorem bc_21 : bx_cov (-2147483648) bp_21_1 = true ∧ bx_cov (-2147483648) bp_21_2 = true ∧ bx_cov (-2147483648) bp_21_3 = true ∧ bx_cov (-2147483648) bp_21_4 = true := by decide +kernel
def bp_22_1 : List am_I := [(-2147483648, -1), (0, 0), (1, 1), (2, 2), (3, 3), (4, 4), (5, 5), (6, 6), (7, 7), (8, 8), (9, 9), (10, 10), (11, 11), (12, 12), (13, 2147483647)]
def bp_22_2 : List am_I := [(-2147483648, -2147483639), (-2147483638, -1), (0, 0), (1, 9), (10, 2147483647)]
def bp_22_3 : List am_I := [(-2147483648, 2147483647)]
def bp_22_4 : List am_I := [(-2147483648, 2147483647)]
theorem bf_22 : bx_A 22 bp_22_1 bp_22_2 bp_22_3 bp_22_4 := bx_app1 bt_22_0 (bx_app1 bt_22_1 (bx_app1 bt_22_2 (bx_app1 bt_22_3 (bx_app1 bt_22_4 (bx_app1 bt_22_5 (bx_app1 bt_22_6 (bx_app1 bt_22_7 (bx_app1 bt_22_8 (bx_app1 bt_22_9 (bx_app1 bt_22_10 (bx_app1 bt_22_11 (bx_app1 bt_22_12 (bx_app1 bt_22_13 (bt_22_14))))))))))))))
theorem bc_22 : bx_cov (-2147483648) bp_22_1 = true ∧ bx_cov (-2147483648) bp_22_2 = true ∧ bx_cov (-2147483648) bp_22_3 = true ∧ bx_cov (-2147483648) bp_22_4 = true := by decide +kernel
def bp_23_1 : List am_I := [(-2147483648, 2147483647)]
def bp_23_2 : List am_I := [(-2147483648, 2147483647)]
def bp_23_3 : List am_I := [(-2147483648, 2147483647)]
def bp_23_4 : List am_I := [(-2147483648, 2147483647)]
theorem bf_23 : bx_A 23 bp_23_1 bp_23_2 bp_23_3 bp_23_4 := bt_23
theorem bc_23 : bx_cov (-2147483648) bp_23_1 = true ∧ bx_cov (-2147483648) bp_23_2 = true ∧ bx_cov (-2147483648) bp_23_3 = true ∧ bx_cov (-2147483648) bp_23_4 = true := by decide +kernel
def bp_24_1 : List am_I := [(-2147483648, -1), (0, 2147483647)]
def bp_24_2 : List am_I := [(-2147483648, 2147483647)]
def bp_24_3 : List am_I := [(-2147483648, 2147483647)]
def bp_24_4 : List am_I := [(-2147483648, 2147483647)]
theorem bf_24 : bx_A 24 bp_24_1 bp_24_2 bp_24_3 bp_24_4 := bt_24
theorem bc_24 : bx_cov (-2147483648) bp_24_1 = true ∧ bx_cov (-2147483648) bp_24_2 = true ∧ bx_cov (-2147483648) bp_24_3 = true ∧ bx_cov (-2147483648) bp_24_4 = true := by decide +kernel
def bp_25_1 : List am_I := [(-2147483648, -1), (0, 2147483647)]
def bp_25_2 : List am_I := [(-2147483648, 2147483647)]
def bp_25_3 : List am_I := [(-2147483648, 2147483647)]
def bp_25_4 : List am_I := [(-2147483648, 2147483647)]
theorem bf_25 : bx_A 25 bp_25_1 bp_25_2 bp_25_3 bp_25_4 := bt_25
theorem bc_25 : bx_cov (-2147483648) bp_25_1 = true ∧ bx_cov (-2147483648) bp_25_2 = true ∧ bx_cov (-2147483648) bp_25_3 = true ∧ bx_cov (-2147483648) bp_25_4 = true := by decide +kernel
def bp_26_1 : List am_I := [(-2147483648, 0), (1, 3), (4, 2147483647)]
def bp_26_2 : List am_I := [(-2147483648, -1), (0, 0), (1, 1), (2, 2), (3, 3), (4, 4), (5, 5), (6, 6), (7, 7), (8, 8), (9, 9), (10, 10), (11, 11), (12, 12), (13, 2147483647)]
def bp_26_3 : List am_I := [(-2147483648, -1), (0, 0), (1, 1), (2, 2147483647)]
def bp_26_4 : List am_I := [(-2147483648, 2147483647)]
theorem bf_26 : bx_A 26 bp_26_1 bp_26_2 bp_26_3 bp_26_4 := bx_app2 bt_26_0 (bx_app2 bt_26_1 (bx_app2 bt_26_2 (bx_app2 bt_26_3 (bx_app2 bt_26_4 (bx_app2 bt_26_5 (bx_app2 bt_26_6 (bx_app2 bt_26_7 (bx_app2 bt_26_8 (bx_app2 bt_26_9 (bx_app2 bt_26_10 (bx_app2 bt_26_11 (bx_app2 bt_26_12 (bx_app2 bt_26_13 (bt_26_14))))))))))))))
theorem bc_26 : bx_cov (-2147483648) bp_26_1 = true ∧ bx_cov (-2147483648) bp_26_2 = true ∧ bx_cov (-2147483648) bp_26_3 = true ∧ bx_cov (-2147483648) bp_26_4 = true := by decide +kernel
def bp_27_1 : List am_I := [(-2147483648, -1), (0, 10), (11, 2147483647)]
def bp_27_2 : List am_I := [(-2147483648, -1), (0, 0), (1, 1), (2, 2), (3, 3), (4, 4), (5, 5), (6, 6), (7, 7), (8, 8), (9, 9), (10, 10), (11, 11), (12, 12), (13, 2147483647)]
def bp_27_3 : List am_I := [(-2147483648, -1), (0, 0), (1, 1), (2, 2147483647)]
def bp_27_4 : List am_I := [(-2147483648, 2147483647)]
theorem bf_27 : bx_A 27 bp_27_1 bp_27_2 bp_27_3 bp_27_4 := bx_app2 bt_27_0 (bx_app2 bt_27_1 (bx_app2 bt_27_2 (bx_app2 bt_27_3 (bx_app2 bt_27_4 (bx_app2 bt_27_5 (bx_app2 bt_27_6 (bx_app2 bt_27_7 (bx_app2 bt_27_8 (bx_app2 bt_27_9 (bx_app2 bt_27_10 (bx_app2 bt_27_11 (bx_app2 bt_27_12 (bx_app2 bt_27_13 (bt_27_14))))))))))))))
theorem bc_27 : bx_cov (-2147483648) bp_27_1 = true ∧ bx_cov (-2147483648) bp_27_2 = true ∧ bx_cov (-2147483648) bp_27_3 = true ∧ bx_cov (-2147483648) bp_27_4 = true := by decide +kernel
def bp_28_1 : List am_I := [(-2147483648, -1), (0, 2147483647)]
def bp_28_2 : List am_I := [(-2147483648, 2147483647)]
def bp_28_3 : List am_I := [(-2147483648, 2147483647)]
def bp_28_4 : List am_I := [(-2147483648, 2147483647)]
theorem bf_28 : bx_A 28 bp_28_1 bp_28_2 bp_28_3 bp_28_4 := bt_28
theorem bc_28 : bx_cov (-2147483648) bp_28_1 = true ∧ bx_cov (-2147483648) bp_28_2 = true ∧ bx_cov (-2147483648) bp_28_3 = true ∧ bx_cov (-2147483648) bp_28_4 = true := by decide +kernel
def bp_29_1 : List am_I := [(-2147483648, -1), (0, 0), (1, 2147483647)]
def bp_29_2 : List am_I := [(-2147483648, 2147483647)]
def bp_29_3 : List am_I := [(-2147483648, 2147483647)]
def bp_29_4 : List am_I := [(-2147483648, 2147483647)]
theorem bf_29 : bx_A 29 bp_29_1 bp_29_2 bp_29_3 bp_29_4 := bt_29
theorem bc_29 : bx_cov (-2147483648) bp_29_1 = true ∧ bx_cov (-2147483648) bp_29_2 = true ∧ bx_cov (-2147483648) bp_29_3 = true ∧ bx_cov (-2147483648) bp_29_4 = true := by decide +kernel
def bp_30_1 : List am_I := [(-2147483648, -2147483639), (-2147483638, -1), (0, 0), (1, 9), (10, 2147483647)]
def bp_30_2 : List am_I := [(-2147483648, 2147483647)]
def bp_30_3 : List am_I := [(-2147483648, 2147483647)]
def bp_30_4 : List am_I := [(-2147483648, 2147483647)]
theorem bf_30 : bx_A 30 bp_30_1 bp_30_2 bp_30_3 bp_30_4 := bt_30
theorem bc_30 : bx_cov (-2147483648) bp_30_1 = true ∧ bx_cov (-2147483648) bp_30_2 = true ∧ bx_cov (-2147483648) bp_30_3 = true ∧ bx_cov (-2147483648) bp_30_4 = true := by decide +kernel
def bp_31_1 : List am_I := [(-2147483648, 2147483647)]
def bp_31_2 : List am_I := [(-2147483648, 0), (1, 60), (61, 2147483647)]
def bp_31_3 : List am_I := [(-2147483648, 2147483647)]
def bp_31_4 : List am_I := [(-2147483648, 2147483647)]
theorem bf_31 : bx_A 31 bp_31_1 bp_31_2 bp_31_3 bp_31_4 := bt_31
theorem bc_31 : bx_cov (-2147483648) bp_31_1 = true ∧ bx_cov (-2147483648) bp_31_2 = true ∧ bx_cov (-2147483648) bp_31_3 = true ∧ bx_cov (-2147483648) bp_31_4 = true := by decide +kernel
def bp_32_1 : List am_I := [(-2147483648, -1), (0, 0), (1, 1), (2, 2147483647)]
def bp_32_2 : List am_I := [(-2147483648, 2147483647)]
def bp_32_3 : List am_I := [(-2147483648, 2147483647)]
def bp_32_4 : List am_I := [(-2147483648, 2147483647)]
theorem bf_32 : bx_A 32 bp_32_1 bp_32_2 bp_32_3 bp_32_4 := bt_32
theorem bc_32 : bx_cov (-2147483648) bp_32_1 = true ∧ bx_cov (-2147483648) bp_32_2 = true ∧ bx_cov (-2147483648) bp_32_3 = true ∧ bx_cov (-2147483648) bp_32_4 = true := by decide +kernel
def bp_33_1 : List am_I := [(-2147483648, -1), (0, 0), (1, 1), (2, 2147483647)]
def bp_33_2 : List am_I := [(-2147483648, 2147483647)]
def bp_33_3 : List am_I := [(-2147483648, 2147483647)]
def bp_33_4 : List am_I := [(-2147483648, 2147483647)]
theorem bf_33 : bx_A 33 bp_33_1 bp_33_2 bp_33_3 bp_33_4 := bt_33
theorem bc_33 : bx_cov (-2147483648) bp_33_1 = true ∧ bx_cov (-2147483648) bp_33_2 = true ∧ bx_cov (-2147483648) bp_33_3 = true ∧ bx_cov (-2147483648) bp_33_4 = true := by decide +kernel
def bp_34_1 : List am_I := [(-2147483648, -1), (0, 0), (1, 1), (2, 2), (3, 3), (4, 2147483647)]
def bp_34_2 : List am_I := [(-2147483648, -1), (0, 2), (3, 2147483647)]
def bp_34_3 : List am_I := [(-2147483648, -1), (0, 40), (41, 2147483647)]
def bp_34_4 : List am_I := [(-2147483648, 2147483647)]
theorem bf_34 : bx_A 34 bp_34_1 bp_34_2 bp_34_3 bp_34_4 := bt_34
theorem bc_34 : bx_cov (-2147483648) bp_34_1 = true ∧ bx_cov (-2147483648) bp_34_2 = true ∧ bx_cov (-2147483648) bp_34_3 = true ∧ bx_cov (-2147483648) bp_34_4 = true := by decide +kernel
def bp_35_1 : List am_I := [(-2147483648, -1), (0, 0), (1, 1), (2, 2), (3, 3), (4, 2147483647)]
def bp_35_2 : List am_I := [(-2147483648, 2147483647)]
def bp_35_3 : List am_I := [(-2147483648, 2147483647)]
def bp_35_4 : List am_I := [(-2147483648, 2147483647)]
theorem bf_35 : bx_A 35 bp_35_1 bp_35_2 bp_35_3 bp_35_4 := bt_35
theorem bc_35 : bx_cov (-2147483648) bp_35_1 = true ∧ bx_cov (-2147483648) bp_35_2 = true ∧ bx_cov (-2147483648) bp_35_3 = true ∧ bx_cov (-2147483648) bp_35_4 = true := by decide +kernel
def bp_36_1 : List am_I := [(-2147483648, -1), (0, 0), (1, 1), (2, 2), (3, 3), (4, 2147483647)]
def bp_36_2 : List am_I := [(-2147483648, -1), (0, 2), (3, 2147483647)]
def bp_36_3 : List am_I := [(-2147483648, 2147483647)]
def bp_36_4 : List am_I := [(-2147483648, -1), (0, 0), (1, 20), (21, 2147483647)]
theorem bf_36 : bx_A 36 bp_36_1 bp_36_2 bp_36_3 bp_36_4 := bt_36
theorem bc_36 : bx_cov (-2147483648) bp_36_1 = true ∧ bx_cov (-2147483648) bp_36_2 = true ∧ bx_cov (-2147483648) bp_36_3 = true ∧ bx_cov (-2147483648) bp_36_4 = true := by decide +kernel
def bp_37_1 : List am_I := [(-2147483648, 2147483647)]
def bp_37_2 : List am_I := [(-2147483648, 2147483647)]
def bp_37_3 : List am_I := [(-2147483648, 2147483647)]
def bp_37_4 : List am_I := [(-2147483648, 2147483647)]
theorem bf_37 : bx_A 37 bp_37_1 bp_37_2 bp_37_3 bp_37_4 := bt_37
theorem bc_37 : bx_cov (-2147483648) bp_37_1 = true ∧ bx_cov (-2147483648) bp_37_2 = true ∧ bx_cov (-2147483648) bp_37_3 = true ∧ bx_cov (-2147483648) bp_37_4 = true := by decide +kernel
def bp_38_1 : List am_I := [(-2147483648, -1), (0, 0), (1, 1), (2, 2), (3, 3), (4, 4), (5, 5), (6, 6), (7, 2147483647)]
def bp_38_2 : List am_I := [(-2147483648, 2147483647)]
def bp_38_3 : List am_I := [(-2147483648, 2147483647)]
def bp_38_4 : List am_I := [(-2147483648, 2147483647)]
theorem bf_38 : bx_A 38 bp_38_1 bp_38_2 bp_38_3 bp_38_4 := bt_38
theorem bc_38 : bx_cov (-2147483648) bp_38_1 = true ∧ bx_cov (-2147483648) bp_38_2 = true ∧ bx_cov (-2147483648) bp_38_3 = true ∧ bx_cov (-2147483648) bp_38_4 = true := by decide +kernel
theorem bd_all : ((List.range 25).all fun j => bx (39 + (j : Int)) am_top am_top am_top am_top) = true := by decide +kernel
theorem bx_pt {k : Int} {l1 l2 l3 l4 : List am_I} (h : bx_A k l1 l2 l3 l4) (hc : bx_cov (-2147483648) l1 = true ∧ bx_cov (-2147483648) l2 = true ∧ bx_cov (-2147483648) l3 = true ∧ bx_cov (-2147483648) l4 = true) (x1 x2 x3 x4 : Int32) : ∃ b1 b2 b3 b4, am_i b1 x1 ∧ am_i b2 x2 ∧ am_i b3 x3 ∧ am_i b4 x4 ∧ bx k b1 b2 b3 b4 = true := by
  obtain ⟨b1, m1, h1⟩ := bx_in hc.1 x1
  obtain ⟨b2, m2, h2⟩ := bx_in hc.2.1 x2
  obtain ⟨b3, m3, h3⟩ := bx_in hc.2.2.1 x3
  obtain ⟨b4, m4, h4⟩ := bx_in hc.2.2.2 x4
  exact ⟨b1, b2, b3, b4, h1, h2, h3, h4, h b1 m1 b2 m2 b3 m3 b4 m4⟩
theorem bx_every (k : Nat) (hk : k < 64) (x1 x2 x3 x4 : Int32) : ∃ b1 b2 b3 b4, am_i b1 x1 ∧ am_i b2 x2 ∧ am_i b3 x3 ∧ am_i b4 x4 ∧ bx (k : Int) b1 b2 b3 b4 = true := by
  match k, hk with
  | 0, _ => exact bx_pt bf_0 bc_0 x1 x2 x3 x4
  | 1, _ => exact bx_pt bf_1 bc_1 x1 x2 x3 x4
  | 2, _ => exact bx_pt bf_2 bc_2 x1 x2 x3 x4
  | 3, _ => exact bx_pt bf_3 bc_3 x1 x2 x3 x4
  | 4, _ => exact bx_pt bf_4 bc_4 x1 x2 x3 x4
  | 5, _ => exact bx_pt bf_5 bc_5 x1 x2 x3 x4
  | 6, _ => exact bx_pt bf_6 bc_6 x1 x2 x3 x4
  | 7, _ => exact bx_pt bf_7 bc_7 x1 x2 x3 x4
  | 8, _ => exact bx_pt bf_8 bc_8 x1 x2 x3 x4
  | 9, _ => exact bx_pt bf_9 bc_9 x1 x2 x3 x4
  | 10, _ => exact bx_pt bf_10 bc_10 x1 x2 x3 x4
  | 11, _ => exact bx_pt bf_11 bc_11 x1 x2 x3 x4
  | 12, _ => exact bx_pt bf_12 bc_12 x1 x2 x3 x4
  | 13, _ => exact bx_pt bf_13 bc_13 x1 x2 x3 x4
  | 14, _ => exact bx_pt bf_14 bc_14 x1 x2 x3 x4
  | 15, _ => exact bx_pt bf_15 bc_15 x1 x2 x3 x4
  | 16, _ => exact bx_pt bf_16 bc_16 x1 x2 x3 x4
  | 17, _ => exact bx_pt bf_17 bc_17 x1 x2 x3 x4
  | 18, _ => exact bx_pt bf_18 bc_18 x1 x2 x3 x4
  | 19, _ => exact bx_pt bf_19 bc_19 x1 x2 x3 x4
  | 20, _ => exact bx_pt bf_20 bc_20 x1 x2 x3 x4
  | 21, _ => exact bx_pt bf_21 bc_21 x1 x2 x3 x4
  | 22, _ => exact bx_pt bf_22 bc_22 x1 x2 x3 x4
  | 23, _ => exact bx_pt bf_23 bc_23 x1 x2 x3 x4
  | 24, _ => exact bx_pt bf_24 bc_24 x1 x2 x3 x4
  | 25, _ => exact bx_pt bf_25 bc_25 x1 x2 x3 x4
  | 26, _ => exact bx_pt bf_26 bc_26 x1 x2 x3 x4
  | 27, _ => exact bx_pt bf_27 bc_27 x1 x2 x3 x4
  | 28, _ => exact bx_pt bf_28 bc_28 x1 x2 x3 x4
  | 29, _ => exact bx_pt bf_29 bc_29 x1 x2 x3 x4
  | 30, _ => exact bx_pt bf_30 bc_30 x1 x2 x3 x4
  | 31, _ => exact bx_pt bf_31 bc_31 x1 x2 x3 x4
  | 32, _ => exact bx_pt bf_32 bc_32 x1 x2 x3 x4
  | 33, _ => exact bx_pt bf_33 bc_33 x1 x2 x3 x4
  | 34, _ => exact bx_pt bf_34 bc_34 x1 x2 x3 x4
  | 35, _ => exact bx_pt bf_35 bc_35 x1 x2 x3 x4
  | 36, _ => exact bx_pt bf_36 bc_36 x1 x2 x3 x4
  | 37, _ => exact bx_pt bf_37 bc_37 x1 x2 x3 x4
  | 38, _ => exact bx_pt bf_38 bc_38 x1 x2 x3 x4
  | k + 39, hk =>
    have h := List.all_eq_true.mp bd_all k (List.mem_range.mpr (by omega))
    refine ⟨am_top, am_top, am_top, am_top, am_i.top _, am_i.top _, am_i.top _, am_i.top _, ?_⟩
    have e : ((k + 39 : Nat) : Int) = 39 + (k : Int) := by omega
    rw [e]
    exact h
end
section
/-! p1: ONE CALL ON FRESH OBJECTS. -/
theorem am_fin {xa : List am_I} {xs : List Int32} (hxs : am_all am_i xa xs) {n pc c sl : Nat} {lva : am_L} {sta : List am_V} {ha : am_H} {lv : pm_L} {st : List Value} {h : pm_H} (hk : (match am_run xa pm_m (am_big xa pm_m 20000 9) m_0 (fun _ _ _ _ _ _ => none) n pc lva sta ha c sl with
  | some (some (.inl a), _) => aeI a (1, 1)
  | _ => false) = true) (hl : am_all am_q lva lv) (hs : am_all am_v sta st) (hh : am_h ha h) : ∃ h1, pm_run xs pm_m (pm_big xs pm_m 20000 9) m_0 n pc lv st h c sl = some (some (.int 1), h1) := by
  split at hk
  · rename_i a hq heq
    have e := aeI_ok hk
    subst e
    have hS := at_run (Pr := am_r) (tab := pm_m) (mm := m_0) (ba := am_big xa pm_m 20000 9) (bc := pm_big xs pm_m 20000 9) hxs (fun _ _ h => h) (fun M2 as h Ra q => at_big (tab := pm_m) hxs 20000 9 M2 as h Ra q) (ka := fun _ _ _ _ _ _ => none) (kc := pm_run xs pm_m (pm_big xs pm_m 20000 9) m_0 0) (fun _ _ _ _ _ _ _ q => by cases q) n
    rw [pm_runK_eq, Nat.zero_add] at hS
    obtain ⟨⟨v, h1⟩, hr, ho, -⟩ := hS _ _ _ _ _ _ _ heq lv st h hl hs hh
    match v, ho with
    | some (.int x), ho =>
      have hx : am_i (1, 1) x := ho
      have e : x = 1 := hx.of rfl
      subst e
      exact ⟨h1, hr⟩
    | some (.long _), ho => exact ho.elim
    | some (.float _), ho => exact ho.elim
    | some (.double _), ho => exact ho.elim
    | some .null, ho => exact ho.elim
    | some (.ref _), ho => exact ho.elim
    | some (.retAddr _), ho => exact ho.elim
    | none, ho => exact ho.elim
  · cases hk
noncomputable def sh (L : Nat) : Bool := match am_run (List.replicate L am_top) pm_m (am_big (List.replicate L am_top) pm_m 20000 9) m_0 (fun _ _ _ _ _ _ => none) 60 0 [(0, .inr (.inr (some 0)))] [] (0, []) 0 0 with
  | some (some (.inl a), _) => aeI a (1, 1)
  | _ => false
theorem sh_0 : sh 0 = true := by decide +kernel
theorem sh_1 : sh 1 = true := by decide +kernel
theorem sh_2 : sh 2 = true := by decide +kernel
theorem sh_3 : sh 3 = true := by decide +kernel
theorem sh_4 : sh 4 = true := by decide +kernel
theorem am_tops : ∀ (xs : List Int32), am_all am_i (List.replicate xs.length am_top) xs
  | [] => trivial
  | x :: xs => ⟨am_i.top x, am_tops xs⟩
theorem am_h0 : am_h (0, []) [] := ⟨rfl, fun i C h => by unfold am_g at h; simp at h⟩
theorem p1_short (xs : List Int32) (L : Nat) (hx : xs.length = L) (hs : sh L = true) : ∃ h1, pm_run xs pm_m (pm_big xs pm_m 20000 9) m_0 60 0 [(0, .ref 0)] [] [] 0 0 = some (some (.int 1), h1) := by
  subst hx
  unfold sh at hs
  exact am_fin (xa := List.replicate xs.length am_top) (xs := xs) (n := 60) (pc := 0) (c := 0) (sl := 0) (lva := [(0, .inr (.inr (some 0)))]) (sta := []) (ha := (0, [])) (lv := [(0, .ref 0)]) (st := []) (h := []) (am_tops xs) hs ⟨⟨rfl, rfl⟩, trivial⟩ trivial am_h0
theorem p1_full (x0 x1 x2 x3 x4 : Int32) : ∃ h1, pm_run [x0, x1, x2, x3, x4] pm_m (pm_big [x0, x1, x2, x3, x4] pm_m 20000 9) m_0 81 0 [(0, .ref 0)] [] [] 0 0 = some (some (.int 1), h1) := by
  have hxs : am_all am_i fr_x [x0, x1, x2, x3, x4] := ⟨am_i.top _, am_i.top _, am_i.top _, am_i.top _, am_i.top _, trivial⟩
  have hcap : am_S (fun R r => am_r R r ∨ r.1 = some (.int 1)) fr_k (pm_run [x0, x1, x2, x3, x4] pm_m (pm_big [x0, x1, x2, x3, x4] pm_m 20000 9) m_0 60) := by
    intro pc lva sta ha c sl R hk lv st h hl hs hh
    unfold fr_k at hk
    split at hk
    · rename_i hb
      simp only [Bool.and_eq_true] at hb
      obtain ⟨b1, b2, b3, ⟨b4, b5⟩, b6, b7⟩ := hb
      obtain rfl : pc = 32 := of_decide_eq_true b1
      obtain rfl : lva = fr_L := aeL_ok (fun _ _ => aeQ_ok) b2
      obtain rfl : sta = [.inl (0, 63)] := aeL_ok (fun _ _ => aeV_ok) b3
      obtain rfl : ha = fr_H := Prod.ext (of_decide_eq_true b4) (aeL_ok (fun _ _ => aeL_ok (fun _ _ => aeC_ok)) b5)
      obtain rfl : c = 80 := of_decide_eq_true b6
      obtain rfl : sl = 1467 := of_decide_eq_true b7
      obtain ⟨y, st, rfl, hy, hs⟩ := av_i hs
      obtain rfl := av_n hs
      have hy1 : (0 : Int) ≤ y.toInt := hy.1
      have hy2 : y.toInt ≤ (63 : Int) := hy.2
      obtain ⟨c1, c2, c3, c4, g1, g2, g3, g4, hbx⟩ := bx_every y.toInt.toNat (by omega) x1 x2 x3 x4
      have e : ((y.toInt.toNat : Nat) : Int) = y.toInt := by omega
      rw [e] at hbx
      unfold bx at hbx
      obtain ⟨h1, hr⟩ := am_fin (xa := [am_top, c1, c2, c3, c4]) (xs := [x0, x1, x2, x3, x4]) ⟨am_i.top _, g1, g2, g3, g4, trivial⟩ hbx hl (st := [.int y]) ⟨am_i.sg y, trivial⟩ hh
      exact ⟨_, hr, Or.inr rfl⟩
    · cases hk
  have hS := at_run (Pr := fun R r => am_r R r ∨ r.1 = some (.int 1)) (tab := pm_m) (mm := m_0) (ba := am_big fr_x pm_m 20000 9) (bc := pm_big [x0, x1, x2, x3, x4] pm_m 20000 9) hxs (fun _ _ h => Or.inl h) (fun M2 as h Ra q => at_big (tab := pm_m) hxs 20000 9 M2 as h Ra q) (ka := fr_k) (kc := pm_run [x0, x1, x2, x3, x4] pm_m (pm_big [x0, x1, x2, x3, x4] pm_m 20000 9) m_0 60) hcap 21
  rw [pm_runK_eq] at hS
  have hf := fr_run
  split at hf
  · rename_i a hq heq
    have e := aeI_ok hf
    subst e
    obtain ⟨⟨v, h1⟩, hr, ho⟩ := hS _ _ _ _ _ _ _ heq [(0, .ref 0)] [] [] ⟨⟨rfl, rfl⟩, trivial⟩ trivial am_h0
    rcases ho with ⟨ho, -⟩ | ho
    · match v, ho with
      | some (.int x), ho =>
        have hx : am_i (1, 0) x := ho
        have q1 : (1 : Int) ≤ x.toInt := hx.1
        have q2 : x.toInt ≤ (0 : Int) := hx.2
        omega
      | some (.long _), ho => exact ho.elim
      | some (.float _), ho => exact ho.elim
      | some (.double _), ho => exact ho.elim
      | some .null, ho => exact ho.elim
      | some (.ref _), ho => exact ho.elim
      | some (.retAddr _), ho => exact ho.elim
      | none, ho => exact ho.elim
    · have ho : v = some (.int 1) := ho
      subst ho
      exact ⟨h1, hr⟩
  · cases hf
end
section
/-! THE CLAIM (the skeleton's end). -/
theorem whole_start {p : Program} {e : Env} {s : State} {m : MethodId} {below : List Frame} {meth : Method} {c : Code} (l : Launch) {b L : Nat} {xs : Nat → Int32} (hL : L ≤ 5) (C0 : lw_At p s m meth c b L xs) : W p l e room_1 s m #[Value.ref b] below meth c s.heap [] 0 0 (lw_Z below #[Value.ref b] s) (entryFrame m ([Value.ref b] : List Value).toArray 4) := by
  rcases (by omega : L = 0 ∨ L = 1 ∨ L = 2 ∨ L = 3 ∨ L = 4 ∨ L = 5) with rfl | rfl | rfl | rfl | rfl | rfl
  · obtain ⟨h1, hk⟩ := p1_short ((List.range 0).map xs) 0 (by rw [List.length_map, List.length_range]) sh_0
    exact pm_law l C0 hk
  · obtain ⟨h1, hk⟩ := p1_short ((List.range 1).map xs) 1 (by rw [List.length_map, List.length_range]) sh_1
    exact pm_law l C0 hk
  · obtain ⟨h1, hk⟩ := p1_short ((List.range 2).map xs) 2 (by rw [List.length_map, List.length_range]) sh_2
    exact pm_law l C0 hk
  · obtain ⟨h1, hk⟩ := p1_short ((List.range 3).map xs) 3 (by rw [List.length_map, List.length_range]) sh_3
    exact pm_law l C0 hk
  · obtain ⟨h1, hk⟩ := p1_short ((List.range 4).map xs) 4 (by rw [List.length_map, List.length_range]) sh_4
    exact pm_law l C0 hk
  · obtain ⟨h1, hk⟩ := p1_full (xs 0) (xs 1) (xs 2) (xs 3) (xs 4)
    exact pm_law (L := 5) l C0 (h1 := h1) (N := 20000) (d := 9) (n := 81) hk
set_option maxHeartbeats 4000000 in
theorem lw_walk (l : Launch) (b : Addr) (xs : List Int32) : MetFree l x (headSpec (Jvm.Cond.code x code maxLocals ret :: tables_1) room_1) (lw_P b xs) (fun _ _ _ _ _ => True) lw_Q := by
  refine MetFree.of_bodyS (code := code) (maxLocals := maxLocals) (ret := ret) (by decide) ?_ ?_
  · intro args s m h hn
    obtain ⟨meth, c, h1, h2, h3, h4, h5, h6, -, -⟩ := Cond.code_spec hn (atoms_spec (ws := Jvm.Cond.code x code maxLocals ret :: tables_1) h _ List.mem_cons_self)
    exact ⟨meth, c, h1, h2, h3, h4, h5, h6⟩
  · intro p e s m args below meth c s₁ B hml0 hP _
    obtain ⟨rfl, hx, hbd, hgv⟩ := hP
    obtain ⟨scr, harrAt, hlist, hof, hsmall⟩ := hx
    obtain ⟨hcb, hkn, -, -⟩ := State.arrayAt?_spec harrAt
    have hown : s.vm.findClass R_law = some m.cls := findClass_of_methodNamed B.named
    have hts0 : ∀ c ∈ (Jvm.Cond.code x code maxLocals ret :: tables_1), c.before #[Value.ref b] s = true := atoms_spec (ws := Jvm.Cond.code x code maxLocals ret :: tables_1) B.pre
    have hts : ∀ w ∈ lw_tbl, w.before #[Value.ref b] s = true := k2_hts_sels lw_privs (fun w hw => hts0 w (List.mem_cons_of_mem _ hw)) lw_privs_ok
    have hml : c.maxLocals = 4 := B.maxLocals_eq (hts0 _ List.mem_cons_self)
    have X₀ : Stand p l e room_1 s m #[Value.ref b] below meth c s₁ [] 0 0 := Stand.of_body B
    have hh0 : s₁.heap = s.heap := by rw [B.state]; rfl
    have hsz : scr.slots.size = xs.length := by rw [← Array.length_toList, hlist, List.length_map]
    have hval : ∀ j : Nat, j < xs.length → scr.slots[j]? = some (.int (xs.getD j 0)) := fun j hj => by
      rw [← Array.getElem?_toList, hlist]
      simp [hj]
    have hbl : b < s.heap.size := (Array.getElem?_eq_some_iff.mp hcb).1
    have hX : va_X b xs.length (fun j => xs.getD j 0) s s.heap := ⟨scr, hcb, hof, hkn, hsz, hval⟩
    have K : W p l e room_1 s m #[Value.ref b] below meth c s₁.heap [] 0 0 (lw_Z below #[Value.ref b] s) (entryFrame m ([Value.ref b] : List Value).toArray 4) := by
      rw [hh0]
      exact whole_start l hbd ⟨B.exec, B.bytes, B.returns, hml, hown, hts, hX, hbl, B.notSynchronized, hgv⟩
    obtain ⟨t, a1, o, b1, b2, b3⟩ := K s₁ rfl X₀
    exact ⟨t, o, a1, b1, b2, b3⟩
theorem lw_pre_spec {args : Array Value} {s : State} (h : (Jvm.Cond.and given_1 narrow_1).before args s = true) (hr : rest_1_c.before args s = true) : ∃ (b : Addr) (xs : List Int32), lw_P b xs args s := by
  have hs := flat_of_before _ h
  have hq := flat_of_before _ hr
  have hc : (Cond.count 1).before args s = true := hs _ (by decide +kernel)
  have harr : (Cond.arrayOf (.arg 0) .int).before args s = true := hs _ (by decide +kernel)
  have hle : (Cond.le (.length (.arg 0)) (.int 5)).before args s = true := hs _ (by decide +kernel)
  have hlen : (Cond.isInt (.length (.arg 0))).before args s = true := hq _ (by decide +kernel)
  have hall : (Cond.all (.arg 0) (.isInt (.elem (.arg 0) (.index 0)))).before args s = true := hq _ (by decide +kernel)
  obtain ⟨b, xs, hb, hx⟩ := State.ints_of_pre rfl harr hlen hall
  have hsm : xs.length < 2 ^ 31 := hx.choose_spec.2.2.2
  have hev : (Term.length (.arg 0)).eval args s none [] s = some (.int xs.length.toInt32) := hx.length_eval hb
  have hv := Cond.le_ints hev (show (Term.int 5).eval args s none [] s = some (.int 5) from rfl)
  have hd : xs.length.toInt32 ≤ 5 := by
    simpa [Cond.before, Cond.holds, hv] using hle
  have hN : xs.length ≤ 5 := (Int32.ofNat_le_ofNat hsm (by decide)).mp (show Int32.ofNat xs.length ≤ Int32.ofNat 5 from hd)
  exact ⟨b, xs, Cond.one_arg hc (show args[0]? = some (.ref b) from hb), hx, hN, h⟩
theorem lw_comes (l : Launch) : Comes l x (Jvm.Cond.code x code maxLocals ret :: tables_1) room_1 (fun tb e args s => Calls_1 tb e args s ∧ rest_1 tb e args s ∧ Pre_1 tb e args s)
    (fun _ _ args s o t => lw_Q args s o t) := by
  intro p e ha hc hk s m args below hf hfit hheap happ hpre
  obtain ⟨b, xs, hP⟩ := lw_pre_spec hpre.2.2 hpre.2.1
  obtain ⟨k, o, h1, h2, h3, hQ⟩ := lw_walk l b xs p e ha hc hk s m args below hf ((Spec.applies_iff_loose hf).mp happ).1 hP trivial
  exact ⟨k, o, h1, h2, h3, hQ⟩
theorem lw_frame {s t : State} {o : Outcome} {args : Array Value} (h : Framed s o t [] 600000 7302250) :
    Framed s o t (fieldLocs frame_1_writes args s ++ arrayLocs frame_1_arrays args s ++ staticLocs frame_1_statics s) 600000 7302250 := h
theorem lw_limb (L : Cond) (hL : ∀ (args : Array Value) (s t : State), L.after args s (.returned (some (.int 1))) t = true) :
    ArmFor flags0 classFile x code maxLocals ret World_1 tables_1 room_1 Calls_1 rest_1 Pre_1
      (fun tb e a s o t => postC L tb e a s o t ∧ Framed s o t (fieldLocs frame_1_writes a s ++ arrayLocs frame_1_arrays a s ++ staticLocs frame_1_statics s) 600000 7302250) := by
  intro l _ _ _ p e ha hc hk s m args below hf hfit hheap happ hpre
  obtain ⟨k, o, h1, h2, h3, rfl, hF⟩ := lw_comes l p e ha hc hk s m args below hf hfit hheap happ hpre
  exact ⟨k, _, h1, h2, h3, hL args s _, lw_frame hF⟩
theorem i_vc : Claimed_1_1 ∧ Claimed_1_2 := ⟨lw_limb limb_1_1 (fun args s t => by simp [limb_1_1, Cond.after, Cond.holds, Cond.value]), lw_limb limb_1_2 (fun args s t => Cond.after_iff.mpr (by
  first | (rw [show limb_1_2 = Cond.eq .result (.int 1) from rfl, Cond.eq_ints (x := 1) (y := 1) rfl rfl]; simp; done) | (simp [limb_1_2, Cond.value, Term.eval]; done)))⟩
end
