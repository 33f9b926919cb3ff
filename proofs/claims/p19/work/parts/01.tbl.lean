section
/-- a private method of a class that the tables say can be made, by its rows of tables_1 -/
def lw_okq (q : MethodName × Nat) : Prop := (q.1.cls ≠ "java/lang/invoke/MethodHandle" ∧ q.1.cls ≠ "java/lang/invoke/VarHandle") ∧ Cond.instantiable q.1.cls q.2 ∈ tables_1 ∧ Cond.privateMethod q.1 ∈ tables_1 ∧ Cond.instanceMethod q.1 ∈ tables_1
theorem lw_p0 : lw_okq (⟨"MoodTown$Tape", "weighFigures", "()V"⟩, 6) := ⟨⟨by decide +kernel, by decide +kernel⟩, List.mem_of_getElem? (i := 26) (by decide +kernel), List.mem_of_getElem? (i := 322) (by decide +kernel), List.mem_of_getElem? (i := 323) (by decide +kernel)⟩
theorem lw_p1 : lw_okq (⟨"MoodTown$Telling", "takeLine", "()V"⟩, 8) := ⟨⟨by decide +kernel, by decide +kernel⟩, List.mem_of_getElem? (i := 57) (by decide +kernel), List.mem_of_getElem? (i := 326) (by decide +kernel), List.mem_of_getElem? (i := 327) (by decide +kernel)⟩
theorem lw_p2 : lw_okq (⟨"MoodTown$Telling", "refuse", "(II)V"⟩, 8) := ⟨⟨by decide +kernel, by decide +kernel⟩, List.mem_of_getElem? (i := 57) (by decide +kernel), List.mem_of_getElem? (i := 330) (by decide +kernel), List.mem_of_getElem? (i := 331) (by decide +kernel)⟩
theorem lw_p3 : lw_okq (⟨"MoodTown$Telling", "takeTown", "()V"⟩, 8) := ⟨⟨by decide +kernel, by decide +kernel⟩, List.mem_of_getElem? (i := 57) (by decide +kernel), List.mem_of_getElem? (i := 387) (by decide +kernel), List.mem_of_getElem? (i := 388) (by decide +kernel)⟩
theorem lw_p4 : lw_okq (⟨"MoodTown$Telling", "refuseSecond", "(Z)V"⟩, 8) := ⟨⟨by decide +kernel, by decide +kernel⟩, List.mem_of_getElem? (i := 57) (by decide +kernel), List.mem_of_getElem? (i := 391) (by decide +kernel), List.mem_of_getElem? (i := 392) (by decide +kernel)⟩
theorem lw_p5 : lw_okq (⟨"MoodTown$Telling", "takeNumber", "(II)I"⟩, 8) := ⟨⟨by decide +kernel, by decide +kernel⟩, List.mem_of_getElem? (i := 57) (by decide +kernel), List.mem_of_getElem? (i := 395) (by decide +kernel), List.mem_of_getElem? (i := 396) (by decide +kernel)⟩
theorem lw_p6 : lw_okq (⟨"MoodTown$Telling", "takeToken", "(I)Z"⟩, 8) := ⟨⟨by decide +kernel, by decide +kernel⟩, List.mem_of_getElem? (i := 57) (by decide +kernel), List.mem_of_getElem? (i := 399) (by decide +kernel), List.mem_of_getElem? (i := 400) (by decide +kernel)⟩
theorem lw_p7 : lw_okq (⟨"MoodTown$Telling", "takeWall", "()V"⟩, 8) := ⟨⟨by decide +kernel, by decide +kernel⟩, List.mem_of_getElem? (i := 57) (by decide +kernel), List.mem_of_getElem? (i := 404) (by decide +kernel), List.mem_of_getElem? (i := 405) (by decide +kernel)⟩
theorem lw_p8 : lw_okq (⟨"MoodTown$Telling", "refuseTaken", "(I)V"⟩, 8) := ⟨⟨by decide +kernel, by decide +kernel⟩, List.mem_of_getElem? (i := 57) (by decide +kernel), List.mem_of_getElem? (i := 408) (by decide +kernel), List.mem_of_getElem? (i := 409) (by decide +kernel)⟩
theorem lw_p9 : lw_okq (⟨"MoodTown$Telling", "takeOne", "(I)V"⟩, 8) := ⟨⟨by decide +kernel, by decide +kernel⟩, List.mem_of_getElem? (i := 57) (by decide +kernel), List.mem_of_getElem? (i := 425) (by decide +kernel), List.mem_of_getElem? (i := 426) (by decide +kernel)⟩
theorem lw_p10 : lw_okq (⟨"MoodTown$Telling", "takePull", "()V"⟩, 8) := ⟨⟨by decide +kernel, by decide +kernel⟩, List.mem_of_getElem? (i := 57) (by decide +kernel), List.mem_of_getElem? (i := 435) (by decide +kernel), List.mem_of_getElem? (i := 436) (by decide +kernel)⟩
theorem lw_p11 : lw_okq (⟨"MoodTown$Telling", "takePress", "()V"⟩, 8) := ⟨⟨by decide +kernel, by decide +kernel⟩, List.mem_of_getElem? (i := 57) (by decide +kernel), List.mem_of_getElem? (i := 440) (by decide +kernel), List.mem_of_getElem? (i := 441) (by decide +kernel)⟩
theorem lw_p12 : lw_okq (⟨"MoodTown$Telling", "takeGoal", "()V"⟩, 8) := ⟨⟨by decide +kernel, by decide +kernel⟩, List.mem_of_getElem? (i := 57) (by decide +kernel), List.mem_of_getElem? (i := 445) (by decide +kernel), List.mem_of_getElem? (i := 446) (by decide +kernel)⟩
theorem lw_p13 : lw_okq (⟨"MoodTown$Telling", "takeStop", "()V"⟩, 8) := ⟨⟨by decide +kernel, by decide +kernel⟩, List.mem_of_getElem? (i := 57) (by decide +kernel), List.mem_of_getElem? (i := 449) (by decide +kernel), List.mem_of_getElem? (i := 450) (by decide +kernel)⟩
theorem lw_p14 : lw_okq (⟨"MoodTown$Telling", "namesWhatIsNot", "()Z"⟩, 8) := ⟨⟨by decide +kernel, by decide +kernel⟩, List.mem_of_getElem? (i := 57) (by decide +kernel), List.mem_of_getElem? (i := 453) (by decide +kernel), List.mem_of_getElem? (i := 454) (by decide +kernel)⟩
theorem lw_p15 : lw_okq (⟨"MoodTown$Walk", "weighPair", "(LMoodTown$Town;II)V"⟩, 7) := ⟨⟨by decide +kernel, by decide +kernel⟩, List.mem_of_getElem? (i := 190) (by decide +kernel), List.mem_of_getElem? (i := 556) (by decide +kernel), List.mem_of_getElem? (i := 557) (by decide +kernel)⟩
def lw_privs_1 : List (MethodName × Nat) := [(⟨"MoodTown$Tape", "weighFigures", "()V"⟩, 6), (⟨"MoodTown$Telling", "takeLine", "()V"⟩, 8), (⟨"MoodTown$Telling", "refuse", "(II)V"⟩, 8), (⟨"MoodTown$Telling", "takeTown", "()V"⟩, 8), (⟨"MoodTown$Telling", "refuseSecond", "(Z)V"⟩, 8), (⟨"MoodTown$Telling", "takeNumber", "(II)I"⟩, 8), (⟨"MoodTown$Telling", "takeToken", "(I)Z"⟩, 8), (⟨"MoodTown$Telling", "takeWall", "()V"⟩, 8), (⟨"MoodTown$Telling", "refuseTaken", "(I)V"⟩, 8), (⟨"MoodTown$Telling", "takeOne", "(I)V"⟩, 8), (⟨"MoodTown$Telling", "takePull", "()V"⟩, 8), (⟨"MoodTown$Telling", "takePress", "()V"⟩, 8), (⟨"MoodTown$Telling", "takeGoal", "()V"⟩, 8), (⟨"MoodTown$Telling", "takeStop", "()V"⟩, 8), (⟨"MoodTown$Telling", "namesWhatIsNot", "()Z"⟩, 8), (⟨"MoodTown$Walk", "weighPair", "(LMoodTown$Town;II)V"⟩, 7)]
theorem lw_r1 : ∀ q ∈ lw_privs_1, lw_okq q := List.forall_mem_cons.mpr ⟨lw_p0, List.forall_mem_cons.mpr ⟨lw_p1, List.forall_mem_cons.mpr ⟨lw_p2, List.forall_mem_cons.mpr ⟨lw_p3, List.forall_mem_cons.mpr ⟨lw_p4, List.forall_mem_cons.mpr ⟨lw_p5, List.forall_mem_cons.mpr ⟨lw_p6, List.forall_mem_cons.mpr ⟨lw_p7, List.forall_mem_cons.mpr ⟨lw_p8, List.forall_mem_cons.mpr ⟨lw_p9, List.forall_mem_cons.mpr ⟨lw_p10, List.forall_mem_cons.mpr ⟨lw_p11, List.forall_mem_cons.mpr ⟨lw_p12, List.forall_mem_cons.mpr ⟨lw_p13, List.forall_mem_cons.mpr ⟨lw_p14, List.forall_mem_cons.mpr ⟨lw_p15, fun _ h => absurd h List.not_mem_nil⟩⟩⟩⟩⟩⟩⟩⟩⟩⟩⟩⟩⟩⟩⟩⟩
theorem lw_p16 : lw_okq (⟨"MoodTown$Walk", "moveAll", "(LMoodTown$Town;)V"⟩, 7) := ⟨⟨by decide +kernel, by decide +kernel⟩, List.mem_of_getElem? (i := 190) (by decide +kernel), List.mem_of_getElem? (i := 587) (by decide +kernel), List.mem_of_getElem? (i := 588) (by decide +kernel)⟩
theorem lw_p17 : lw_okq (⟨"MoodTown$Walk", "flipAll", "(LMoodTown$Town;)V"⟩, 7) := ⟨⟨by decide +kernel, by decide +kernel⟩, List.mem_of_getElem? (i := 190) (by decide +kernel), List.mem_of_getElem? (i := 591) (by decide +kernel), List.mem_of_getElem? (i := 592) (by decide +kernel)⟩
theorem lw_p18 : lw_okq (⟨"MoodTown$Walk", "nextTo", "(II)I"⟩, 7) := ⟨⟨by decide +kernel, by decide +kernel⟩, List.mem_of_getElem? (i := 190) (by decide +kernel), List.mem_of_getElem? (i := 595) (by decide +kernel), List.mem_of_getElem? (i := 596) (by decide +kernel)⟩
theorem lw_p19 : lw_okq (⟨"MoodTown$Search", "isTrialAtRest", "()Z"⟩, 3) := ⟨⟨by decide +kernel, by decide +kernel⟩, List.mem_of_getElem? (i := 223) (by decide +kernel), List.mem_of_getElem? (i := 645) (by decide +kernel), List.mem_of_getElem? (i := 646) (by decide +kernel)⟩
theorem lw_p20 : lw_okq (⟨"MoodTown", "isTotalOrOne", "(I)Z"⟩, 9) := ⟨⟨by decide +kernel, by decide +kernel⟩, List.mem_of_getElem? (i := 18) (by decide +kernel), List.mem_of_getElem? (i := 676) (by decide +kernel), List.mem_of_getElem? (i := 677) (by decide +kernel)⟩
theorem lw_p21 : lw_okq (⟨"MoodTown$Search", "reachesGoals", "(LMoodTown$Town;II)Z"⟩, 3) := ⟨⟨by decide +kernel, by decide +kernel⟩, List.mem_of_getElem? (i := 223) (by decide +kernel), List.mem_of_getElem? (i := 698) (by decide +kernel), List.mem_of_getElem? (i := 699) (by decide +kernel)⟩
theorem lw_p22 : lw_okq (⟨"MoodTown$Search", "nurseTrial", "(LMoodTown$Town;III)V"⟩, 3) := ⟨⟨by decide +kernel, by decide +kernel⟩, List.mem_of_getElem? (i := 223) (by decide +kernel), List.mem_of_getElem? (i := 748) (by decide +kernel), List.mem_of_getElem? (i := 749) (by decide +kernel)⟩
theorem lw_p23 : lw_okq (⟨"MoodTown$Search", "flipTrial", "(LMoodTown$Town;I)V"⟩, 3) := ⟨⟨by decide +kernel, by decide +kernel⟩, List.mem_of_getElem? (i := 223) (by decide +kernel), List.mem_of_getElem? (i := 785) (by decide +kernel), List.mem_of_getElem? (i := 786) (by decide +kernel)⟩
theorem lw_p24 : lw_okq (⟨"MoodTown$Search", "fits", "(LMoodTown$Town;I)Z"⟩, 3) := ⟨⟨by decide +kernel, by decide +kernel⟩, List.mem_of_getElem? (i := 223) (by decide +kernel), List.mem_of_getElem? (i := 814) (by decide +kernel), List.mem_of_getElem? (i := 815) (by decide +kernel)⟩
theorem lw_p25 : lw_okq (⟨"MoodTown", "isTellableMood", "(LMoodTown$Sheet;I)Z"⟩, 9) := ⟨⟨by decide +kernel, by decide +kernel⟩, List.mem_of_getElem? (i := 18) (by decide +kernel), List.mem_of_getElem? (i := 895) (by decide +kernel), List.mem_of_getElem? (i := 896) (by decide +kernel)⟩
theorem lw_p26 : lw_okq (⟨"MoodTownModel", "firstDraft", "()V"⟩, 35) := ⟨⟨by decide +kernel, by decide +kernel⟩, List.mem_of_getElem? (i := 914) (by decide +kernel), List.mem_of_getElem? (i := 920) (by decide +kernel), List.mem_of_getElem? (i := 921) (by decide +kernel)⟩
theorem lw_p27 : lw_okq (⟨"MoodTownModel", "keepDraft", "()V"⟩, 35) := ⟨⟨by decide +kernel, by decide +kernel⟩, List.mem_of_getElem? (i := 914) (by decide +kernel), List.mem_of_getElem? (i := 924) (by decide +kernel), List.mem_of_getElem? (i := 925) (by decide +kernel)⟩
theorem lw_p28 : lw_okq (⟨"MoodTownModel", "next", "()V"⟩, 35) := ⟨⟨by decide +kernel, by decide +kernel⟩, List.mem_of_getElem? (i := 914) (by decide +kernel), List.mem_of_getElem? (i := 1051) (by decide +kernel), List.mem_of_getElem? (i := 1052) (by decide +kernel)⟩
theorem lw_p29 : lw_okq (⟨"MoodTownModel", "look", "(I)I"⟩, 35) := ⟨⟨by decide +kernel, by decide +kernel⟩, List.mem_of_getElem? (i := 914) (by decide +kernel), List.mem_of_getElem? (i := 1055) (by decide +kernel), List.mem_of_getElem? (i := 1056) (by decide +kernel)⟩
theorem lw_p30 : lw_okq (⟨"MoodTownModel", "needs", "(ZI)V"⟩, 35) := ⟨⟨by decide +kernel, by decide +kernel⟩, List.mem_of_getElem? (i := 914) (by decide +kernel), List.mem_of_getElem? (i := 1063) (by decide +kernel), List.mem_of_getElem? (i := 1064) (by decide +kernel)⟩
theorem lw_p31 : lw_okq (⟨"MoodTownModel", "readLine", "()V"⟩, 35) := ⟨⟨by decide +kernel, by decide +kernel⟩, List.mem_of_getElem? (i := 914) (by decide +kernel), List.mem_of_getElem? (i := 1067) (by decide +kernel), List.mem_of_getElem? (i := 1068) (by decide +kernel)⟩
def lw_privs_2 : List (MethodName × Nat) := [(⟨"MoodTown$Walk", "moveAll", "(LMoodTown$Town;)V"⟩, 7), (⟨"MoodTown$Walk", "flipAll", "(LMoodTown$Town;)V"⟩, 7), (⟨"MoodTown$Walk", "nextTo", "(II)I"⟩, 7), (⟨"MoodTown$Search", "isTrialAtRest", "()Z"⟩, 3), (⟨"MoodTown", "isTotalOrOne", "(I)Z"⟩, 9), (⟨"MoodTown$Search", "reachesGoals", "(LMoodTown$Town;II)Z"⟩, 3), (⟨"MoodTown$Search", "nurseTrial", "(LMoodTown$Town;III)V"⟩, 3), (⟨"MoodTown$Search", "flipTrial", "(LMoodTown$Town;I)V"⟩, 3), (⟨"MoodTown$Search", "fits", "(LMoodTown$Town;I)Z"⟩, 3), (⟨"MoodTown", "isTellableMood", "(LMoodTown$Sheet;I)Z"⟩, 9), (⟨"MoodTownModel", "firstDraft", "()V"⟩, 35), (⟨"MoodTownModel", "keepDraft", "()V"⟩, 35), (⟨"MoodTownModel", "next", "()V"⟩, 35), (⟨"MoodTownModel", "look", "(I)I"⟩, 35), (⟨"MoodTownModel", "needs", "(ZI)V"⟩, 35), (⟨"MoodTownModel", "readLine", "()V"⟩, 35)]
theorem lw_r2 : ∀ q ∈ lw_privs_2, lw_okq q := List.forall_mem_cons.mpr ⟨lw_p16, List.forall_mem_cons.mpr ⟨lw_p17, List.forall_mem_cons.mpr ⟨lw_p18, List.forall_mem_cons.mpr ⟨lw_p19, List.forall_mem_cons.mpr ⟨lw_p20, List.forall_mem_cons.mpr ⟨lw_p21, List.forall_mem_cons.mpr ⟨lw_p22, List.forall_mem_cons.mpr ⟨lw_p23, List.forall_mem_cons.mpr ⟨lw_p24, List.forall_mem_cons.mpr ⟨lw_p25, List.forall_mem_cons.mpr ⟨lw_p26, List.forall_mem_cons.mpr ⟨lw_p27, List.forall_mem_cons.mpr ⟨lw_p28, List.forall_mem_cons.mpr ⟨lw_p29, List.forall_mem_cons.mpr ⟨lw_p30, List.forall_mem_cons.mpr ⟨lw_p31, fun _ h => absurd h List.not_mem_nil⟩⟩⟩⟩⟩⟩⟩⟩⟩⟩⟩⟩⟩⟩⟩⟩
theorem lw_p32 : lw_okq (⟨"MoodTownModel", "lineNow", "()I"⟩, 35) := ⟨⟨by decide +kernel, by decide +kernel⟩, List.mem_of_getElem? (i := 914) (by decide +kernel), List.mem_of_getElem? (i := 1071) (by decide +kernel), List.mem_of_getElem? (i := 1072) (by decide +kernel)⟩
theorem lw_p33 : lw_okq (⟨"MoodTownModel", "is", "(III)Z"⟩, 35) := ⟨⟨by decide +kernel, by decide +kernel⟩, List.mem_of_getElem? (i := 914) (by decide +kernel), List.mem_of_getElem? (i := 1075) (by decide +kernel), List.mem_of_getElem? (i := 1076) (by decide +kernel)⟩
theorem lw_p34 : lw_okq (⟨"MoodTownModel", "ends", "(III)Z"⟩, 35) := ⟨⟨by decide +kernel, by decide +kernel⟩, List.mem_of_getElem? (i := 914) (by decide +kernel), List.mem_of_getElem? (i := 1079) (by decide +kernel), List.mem_of_getElem? (i := 1080) (by decide +kernel)⟩
theorem lw_p35 : lw_okq (⟨"MoodTownModel", "readLineOf", "(I)V"⟩, 35) := ⟨⟨by decide +kernel, by decide +kernel⟩, List.mem_of_getElem? (i := 914) (by decide +kernel), List.mem_of_getElem? (i := 1083) (by decide +kernel), List.mem_of_getElem? (i := 1084) (by decide +kernel)⟩
theorem lw_p36 : lw_okq (⟨"MoodTownModel", "readNumber", "(II)I"⟩, 35) := ⟨⟨by decide +kernel, by decide +kernel⟩, List.mem_of_getElem? (i := 914) (by decide +kernel), List.mem_of_getElem? (i := 1087) (by decide +kernel), List.mem_of_getElem? (i := 1088) (by decide +kernel)⟩
theorem lw_p37 : lw_okq (⟨"MoodTownModel", "looked", "(II)I"⟩, 35) := ⟨⟨by decide +kernel, by decide +kernel⟩, List.mem_of_getElem? (i := 914) (by decide +kernel), List.mem_of_getElem? (i := 1091) (by decide +kernel), List.mem_of_getElem? (i := 1092) (by decide +kernel)⟩
theorem lw_p38 : lw_okq (⟨"MoodTownModel", "readFree", "()I"⟩, 35) := ⟨⟨by decide +kernel, by decide +kernel⟩, List.mem_of_getElem? (i := 914) (by decide +kernel), List.mem_of_getElem? (i := 1095) (by decide +kernel), List.mem_of_getElem? (i := 1096) (by decide +kernel)⟩
theorem lw_p39 : lw_okq (⟨"MoodTownModel", "readGoal", "()V"⟩, 35) := ⟨⟨by decide +kernel, by decide +kernel⟩, List.mem_of_getElem? (i := 914) (by decide +kernel), List.mem_of_getElem? (i := 1099) (by decide +kernel), List.mem_of_getElem? (i := 1100) (by decide +kernel)⟩
theorem lw_p40 : lw_okq (⟨"MoodTownModel", "readOne", "(I)V"⟩, 35) := ⟨⟨by decide +kernel, by decide +kernel⟩, List.mem_of_getElem? (i := 914) (by decide +kernel), List.mem_of_getElem? (i := 1106) (by decide +kernel), List.mem_of_getElem? (i := 1107) (by decide +kernel)⟩
theorem lw_p41 : lw_okq (⟨"MoodTownModel", "isOne", "(I)Z"⟩, 35) := ⟨⟨by decide +kernel, by decide +kernel⟩, List.mem_of_getElem? (i := 914) (by decide +kernel), List.mem_of_getElem? (i := 1123) (by decide +kernel), List.mem_of_getElem? (i := 1124) (by decide +kernel)⟩
theorem lw_p42 : lw_okq (⟨"MoodTownModel", "isCell", "(I)Z"⟩, 35) := ⟨⟨by decide +kernel, by decide +kernel⟩, List.mem_of_getElem? (i := 914) (by decide +kernel), List.mem_of_getElem? (i := 1132) (by decide +kernel), List.mem_of_getElem? (i := 1133) (by decide +kernel)⟩
theorem lw_p43 : lw_okq (⟨"MoodTownModel", "starts", "()V"⟩, 35) := ⟨⟨by decide +kernel, by decide +kernel⟩, List.mem_of_getElem? (i := 914) (by decide +kernel), List.mem_of_getElem? (i := 1136) (by decide +kernel), List.mem_of_getElem? (i := 1137) (by decide +kernel)⟩
theorem lw_p44 : lw_okq (⟨"MoodTownModel", "whoIsIn", "(I)I"⟩, 35) := ⟨⟨by decide +kernel, by decide +kernel⟩, List.mem_of_getElem? (i := 914) (by decide +kernel), List.mem_of_getElem? (i := 1140) (by decide +kernel), List.mem_of_getElem? (i := 1141) (by decide +kernel)⟩
theorem lw_p45 : lw_okq (⟨"MoodTownModel", "becomes", "(II)I"⟩, 35) := ⟨⟨by decide +kernel, by decide +kernel⟩, List.mem_of_getElem? (i := 914) (by decide +kernel), List.mem_of_getElem? (i := 1148) (by decide +kernel), List.mem_of_getElem? (i := 1149) (by decide +kernel)⟩
theorem lw_p46 : lw_okq (⟨"MoodTownModel", "isOpen", "(I)Z"⟩, 35) := ⟨⟨by decide +kernel, by decide +kernel⟩, List.mem_of_getElem? (i := 914) (by decide +kernel), List.mem_of_getElem? (i := 1156) (by decide +kernel), List.mem_of_getElem? (i := 1157) (by decide +kernel)⟩
theorem lw_p47 : lw_okq (⟨"MoodTownModel", "forceOn", "(IZ)I"⟩, 35) := ⟨⟨by decide +kernel, by decide +kernel⟩, List.mem_of_getElem? (i := 914) (by decide +kernel), List.mem_of_getElem? (i := 1185) (by decide +kernel), List.mem_of_getElem? (i := 1186) (by decide +kernel)⟩
def lw_privs_3 : List (MethodName × Nat) := [(⟨"MoodTownModel", "lineNow", "()I"⟩, 35), (⟨"MoodTownModel", "is", "(III)Z"⟩, 35), (⟨"MoodTownModel", "ends", "(III)Z"⟩, 35), (⟨"MoodTownModel", "readLineOf", "(I)V"⟩, 35), (⟨"MoodTownModel", "readNumber", "(II)I"⟩, 35), (⟨"MoodTownModel", "looked", "(II)I"⟩, 35), (⟨"MoodTownModel", "readFree", "()I"⟩, 35), (⟨"MoodTownModel", "readGoal", "()V"⟩, 35), (⟨"MoodTownModel", "readOne", "(I)V"⟩, 35), (⟨"MoodTownModel", "isOne", "(I)Z"⟩, 35), (⟨"MoodTownModel", "isCell", "(I)Z"⟩, 35), (⟨"MoodTownModel", "starts", "()V"⟩, 35), (⟨"MoodTownModel", "whoIsIn", "(I)I"⟩, 35), (⟨"MoodTownModel", "becomes", "(II)I"⟩, 35), (⟨"MoodTownModel", "isOpen", "(I)Z"⟩, 35), (⟨"MoodTownModel", "forceOn", "(IZ)I"⟩, 35)]
theorem lw_r3 : ∀ q ∈ lw_privs_3, lw_okq q := List.forall_mem_cons.mpr ⟨lw_p32, List.forall_mem_cons.mpr ⟨lw_p33, List.forall_mem_cons.mpr ⟨lw_p34, List.forall_mem_cons.mpr ⟨lw_p35, List.forall_mem_cons.mpr ⟨lw_p36, List.forall_mem_cons.mpr ⟨lw_p37, List.forall_mem_cons.mpr ⟨lw_p38, List.forall_mem_cons.mpr ⟨lw_p39, List.forall_mem_cons.mpr ⟨lw_p40, List.forall_mem_cons.mpr ⟨lw_p41, List.forall_mem_cons.mpr ⟨lw_p42, List.forall_mem_cons.mpr ⟨lw_p43, List.forall_mem_cons.mpr ⟨lw_p44, List.forall_mem_cons.mpr ⟨lw_p45, List.forall_mem_cons.mpr ⟨lw_p46, List.forall_mem_cons.mpr ⟨lw_p47, fun _ h => absurd h List.not_mem_nil⟩⟩⟩⟩⟩⟩⟩⟩⟩⟩⟩⟩⟩⟩⟩⟩
theorem lw_p48 : lw_okq (⟨"MoodTownModel", "apart", "(II)I"⟩, 35) := ⟨⟨by decide +kernel, by decide +kernel⟩, List.mem_of_getElem? (i := 914) (by decide +kernel), List.mem_of_getElem? (i := 1189) (by decide +kernel), List.mem_of_getElem? (i := 1190) (by decide +kernel)⟩
theorem lw_p49 : lw_okq (⟨"MoodTownModel", "wishOf", "(I)I"⟩, 35) := ⟨⟨by decide +kernel, by decide +kernel⟩, List.mem_of_getElem? (i := 914) (by decide +kernel), List.mem_of_getElem? (i := 1203) (by decide +kernel), List.mem_of_getElem? (i := 1204) (by decide +kernel)⟩
theorem lw_p50 : lw_okq (⟨"MoodTownModel", "steps", "()Z"⟩, 35) := ⟨⟨by decide +kernel, by decide +kernel⟩, List.mem_of_getElem? (i := 914) (by decide +kernel), List.mem_of_getElem? (i := 1211) (by decide +kernel), List.mem_of_getElem? (i := 1212) (by decide +kernel)⟩
theorem lw_p51 : lw_okq (⟨"MoodTownModel", "beside", "(II)I"⟩, 35) := ⟨⟨by decide +kernel, by decide +kernel⟩, List.mem_of_getElem? (i := 914) (by decide +kernel), List.mem_of_getElem? (i := 1215) (by decide +kernel), List.mem_of_getElem? (i := 1216) (by decide +kernel)⟩
theorem lw_p52 : lw_okq (⟨"MoodTownModel", "isPressed", "(I)Z"⟩, 35) := ⟨⟨by decide +kernel, by decide +kernel⟩, List.mem_of_getElem? (i := 914) (by decide +kernel), List.mem_of_getElem? (i := 1219) (by decide +kernel), List.mem_of_getElem? (i := 1220) (by decide +kernel)⟩
theorem lw_p53 : lw_okq (⟨"MoodTownModel", "atGoals", "()I"⟩, 35) := ⟨⟨by decide +kernel, by decide +kernel⟩, List.mem_of_getElem? (i := 914) (by decide +kernel), List.mem_of_getElem? (i := 1235) (by decide +kernel), List.mem_of_getElem? (i := 1236) (by decide +kernel)⟩
theorem lw_p54 : lw_okq (⟨"MoodTownModel", "moodBy", "(II)I"⟩, 35) := ⟨⟨by decide +kernel, by decide +kernel⟩, List.mem_of_getElem? (i := 914) (by decide +kernel), List.mem_of_getElem? (i := 1260) (by decide +kernel), List.mem_of_getElem? (i := 1261) (by decide +kernel)⟩
theorem lw_p55 : lw_okq (⟨"MoodTownModel", "areAllThere", "(I)Z"⟩, 35) := ⟨⟨by decide +kernel, by decide +kernel⟩, List.mem_of_getElem? (i := 914) (by decide +kernel), List.mem_of_getElem? (i := 1264) (by decide +kernel), List.mem_of_getElem? (i := 1265) (by decide +kernel)⟩
theorem lw_p56 : lw_okq (⟨"MoodTownModel", "haveGoals", "()I"⟩, 35) := ⟨⟨by decide +kernel, by decide +kernel⟩, List.mem_of_getElem? (i := 914) (by decide +kernel), List.mem_of_getElem? (i := 1268) (by decide +kernel), List.mem_of_getElem? (i := 1269) (by decide +kernel)⟩
theorem lw_p57 : lw_okq (⟨"MoodTownModel", "copies", "(II)V"⟩, 35) := ⟨⟨by decide +kernel, by decide +kernel⟩, List.mem_of_getElem? (i := 914) (by decide +kernel), List.mem_of_getElem? (i := 1319) (by decide +kernel), List.mem_of_getElem? (i := 1320) (by decide +kernel)⟩
def lw_privs_4 : List (MethodName × Nat) := [(⟨"MoodTownModel", "apart", "(II)I"⟩, 35), (⟨"MoodTownModel", "wishOf", "(I)I"⟩, 35), (⟨"MoodTownModel", "steps", "()Z"⟩, 35), (⟨"MoodTownModel", "beside", "(II)I"⟩, 35), (⟨"MoodTownModel", "isPressed", "(I)Z"⟩, 35), (⟨"MoodTownModel", "atGoals", "()I"⟩, 35), (⟨"MoodTownModel", "moodBy", "(II)I"⟩, 35), (⟨"MoodTownModel", "areAllThere", "(I)Z"⟩, 35), (⟨"MoodTownModel", "haveGoals", "()I"⟩, 35), (⟨"MoodTownModel", "copies", "(II)V"⟩, 35)]
theorem lw_r4 : ∀ q ∈ lw_privs_4, lw_okq q := List.forall_mem_cons.mpr ⟨lw_p48, List.forall_mem_cons.mpr ⟨lw_p49, List.forall_mem_cons.mpr ⟨lw_p50, List.forall_mem_cons.mpr ⟨lw_p51, List.forall_mem_cons.mpr ⟨lw_p52, List.forall_mem_cons.mpr ⟨lw_p53, List.forall_mem_cons.mpr ⟨lw_p54, List.forall_mem_cons.mpr ⟨lw_p55, List.forall_mem_cons.mpr ⟨lw_p56, List.forall_mem_cons.mpr ⟨lw_p57, fun _ h => absurd h List.not_mem_nil⟩⟩⟩⟩⟩⟩⟩⟩⟩⟩
def lw_privs : List (MethodName × Nat) := lw_privs_1 ++ (lw_privs_2 ++ (lw_privs_3 ++ (lw_privs_4)))
def lw_tbl : List Cond := k2_sels lw_privs ++ tables_1
theorem lw_privs_ok : ∀ q ∈ lw_privs, lw_okq q := by
  show ∀ q ∈ lw_privs_1 ++ (lw_privs_2 ++ (lw_privs_3 ++ (lw_privs_4))), lw_okq q
  exact List.forall_mem_append.mpr ⟨lw_r1, List.forall_mem_append.mpr ⟨lw_r2, List.forall_mem_append.mpr ⟨lw_r3, lw_r4⟩⟩⟩
end
section
/-! THE PURE MACHINE: class tables (printed by wip/gen/gen02.py), then cells, one step, runs. -/
def lw_gt : List Cond := lw_tbl.filter goodWord
theorem lw_gi {w : Cond} (i : Nat) (h : lw_tbl[i]? = some w) (hg : goodWord w = true) : w ∈ lw_gt := List.mem_filter.mpr ⟨List.mem_of_getElem? h, hg⟩
def kN (o : Nat) : String := match o with
  | 0 => "MoodTown$Search"
  | 1 => "MoodTown$Sheet"
  | 2 => "MoodTown$Tape"
  | 3 => "MoodTown$Telling"
  | 4 => "MoodTown$Town"
  | 5 => "MoodTown$Walk"
  | 6 => "MoodTown"
  | 7 => "MoodTownModel"
  | 8 => "MoodTownLaw"
  | 9 => "java/util/Arrays"
  | 10 => "java/lang/Math"
  | 11 => "java/lang/Integer"
  | _ => ""
def kT0 : u_T := fun k => match k with
  | 0 => ("MoodTown$Search", "walk", "LMoodTown$Walk;", true)
  | 1 => ("MoodTown$Search", "trial", "LMoodTown$Town;", true)
  | _ => ("MoodTown$Search", "marks", "[J", true)
def kY0 : Nat → FieldType := fun k => match k with
  | 0 => .object "MoodTown$Walk"
  | 1 => .object "MoodTown$Town"
  | _ => .array .long
def kT1 : u_T := fun k => match k with
  | 0 => ("MoodTown$Sheet", "row", "[I", true)
  | 1 => ("MoodTown$Sheet", "size", "I", false)
  | _ => ("MoodTown$Sheet", "lane", "I", false)
def kY1 : Nat → FieldType := fun k => match k with
  | 0 => .array .int
  | 1 => .int
  | _ => .int
def kT2 : u_T := fun k => match k with
  | 0 => ("MoodTown$Tape", "bytes", "[B", true)
  | 1 => ("MoodTown$Tape", "length", "I", false)
  | 2 => ("MoodTown$Tape", "kind", "I", false)
  | 3 => ("MoodTown$Tape", "first", "I", false)
  | 4 => ("MoodTown$Tape", "value", "I", false)
  | _ => ("MoodTown$Tape", "place", "I", false)
def kY2 : Nat → FieldType := fun k => match k with
  | 0 => .array .byte
  | 1 => .int
  | 2 => .int
  | 3 => .int
  | 4 => .int
  | _ => .int
def kT3 : u_T := fun k => match k with
  | 0 => ("MoodTown$Telling", "told", "LMoodTown$Town;", true)
  | 1 => ("MoodTown$Telling", "lines", "I", false)
  | 2 => ("MoodTown$Telling", "fault", "I", false)
  | 3 => ("MoodTown$Telling", "faultPlace", "I", false)
  | 4 => ("MoodTown$Telling", "tape", "LMoodTown$Tape;", true)
  | 5 => ("MoodTown$Telling", "townTold", "Z", false)
  | 6 => ("MoodTown$Telling", "pullTold", "Z", false)
  | _ => ("MoodTown$Telling", "pressTold", "Z", false)
def kY3 : Nat → FieldType := fun k => match k with
  | 0 => .object "MoodTown$Town"
  | 1 => .int
  | 2 => .int
  | 3 => .int
  | 4 => .object "MoodTown$Tape"
  | 5 => .boolean
  | 6 => .boolean
  | _ => .boolean
def kT4 : u_T := fun k => match k with
  | 0 => ("MoodTown$Town", "wide", "I", false)
  | 1 => ("MoodTown$Town", "high", "I", false)
  | 2 => ("MoodTown$Town", "walls", "I", false)
  | 3 => ("MoodTown$Town", "people", "I", false)
  | 4 => ("MoodTown$Town", "press", "I", false)
  | 5 => ("MoodTown$Town", "step", "I", false)
  | 6 => ("MoodTown$Town", "seen", "I", false)
  | 7 => ("MoodTown$Town", "cells", "[I", true)
  | 8 => ("MoodTown$Town", "moods", "[I", true)
  | 9 => ("MoodTown$Town", "still", "[I", true)
  | 10 => ("MoodTown$Town", "goals", "[I", true)
  | 11 => ("MoodTown$Town", "pulls", "[I", true)
  | 12 => ("MoodTown$Town", "seenOnes", "[I", true)
  | _ => ("MoodTown$Town", "seenWays", "[I", true)
def kY4 : Nat → FieldType := fun k => match k with
  | 0 => .int
  | 1 => .int
  | 2 => .int
  | 3 => .int
  | 4 => .int
  | 5 => .int
  | 6 => .int
  | 7 => .array .int
  | 8 => .array .int
  | 9 => .array .int
  | 10 => .array .int
  | 11 => .array .int
  | 12 => .array .int
  | _ => .array .int
def kT5 : u_T := fun k => match k with
  | 0 => ("MoodTown$Walk", "columns", "[I", true)
  | 1 => ("MoodTown$Walk", "rows", "[I", true)
  | 2 => ("MoodTown$Walk", "easts", "[I", true)
  | 3 => ("MoodTown$Walk", "souths", "[I", true)
  | 4 => ("MoodTown$Walk", "ways", "[I", true)
  | 5 => ("MoodTown$Walk", "went", "I", false)
  | _ => ("MoodTown$Walk", "flipped", "I", false)
def kY5 : Nat → FieldType := fun k => match k with
  | 0 => .array .int
  | 1 => .array .int
  | 2 => .array .int
  | 3 => .array .int
  | 4 => .array .int
  | 5 => .int
  | _ => .int
def kT6 : u_T := fun k => match k with
  | 0 => ("MoodTown", "tape", "LMoodTown$Tape;", true)
  | 1 => ("MoodTown", "telling", "LMoodTown$Telling;", true)
  | 2 => ("MoodTown", "town", "LMoodTown$Town;", true)
  | 3 => ("MoodTown", "walk", "LMoodTown$Walk;", true)
  | 4 => ("MoodTown", "search", "LMoodTown$Search;", true)
  | 5 => ("MoodTown", "images", "[LMoodTown$Town;", true)
  | 6 => ("MoodTown", "sheets", "[LMoodTown$Sheet;", true)
  | 7 => ("MoodTown", "keptBits", "I", false)
  | _ => ("MoodTown", "latestTorn", "I", false)
def kY6 : Nat → FieldType := fun k => match k with
  | 0 => .object "MoodTown$Tape"
  | 1 => .object "MoodTown$Telling"
  | 2 => .object "MoodTown$Town"
  | 3 => .object "MoodTown$Walk"
  | 4 => .object "MoodTown$Search"
  | 5 => .array (.object "MoodTown$Town")
  | 6 => .array (.object "MoodTown$Sheet")
  | 7 => .int
  | _ => .int
def kT7 : u_T := fun k => match k with
  | 0 => ("MoodTownModel", "st", "[I", true)
  | 1 => ("MoodTownModel", "isKept", "[Z", true)
  | 2 => ("MoodTownModel", "wide", "I", false)
  | 3 => ("MoodTownModel", "high", "I", false)
  | 4 => ("MoodTownModel", "people", "I", false)
  | 5 => ("MoodTownModel", "draft", "[I", true)
  | 6 => ("MoodTownModel", "dWide", "I", false)
  | 7 => ("MoodTownModel", "dHigh", "I", false)
  | 8 => ("MoodTownModel", "dPeople", "I", false)
  | 9 => ("MoodTownModel", "toldLines", "I", false)
  | 10 => ("MoodTownModel", "highestCell", "I", false)
  | 11 => ("MoodTownModel", "highestOne", "I", false)
  | 12 => ("MoodTownModel", "tape", "[I", true)
  | 13 => ("MoodTownModel", "taped", "I", false)
  | 14 => ("MoodTownModel", "pos", "I", false)
  | 15 => ("MoodTownModel", "from", "I", false)
  | 16 => ("MoodTownModel", "sort", "I", false)
  | 17 => ("MoodTownModel", "value", "I", false)
  | 18 => ("MoodTownModel", "fault", "I", false)
  | 19 => ("MoodTownModel", "wrongAt", "I", false)
  | 20 => ("MoodTownModel", "at", "[I", true)
  | 21 => ("MoodTownModel", "feels", "[I", true)
  | 22 => ("MoodTownModel", "stills", "[I", true)
  | 23 => ("MoodTownModel", "goals", "[I", true)
  | 24 => ("MoodTownModel", "wishes", "[I", true)
  | 25 => ("MoodTownModel", "went", "[I", true)
  | 26 => ("MoodTownModel", "flips", "[I", true)
  | 27 => ("MoodTownModel", "many", "I", false)
  | 28 => ("MoodTownModel", "cellRows", "[I", true)
  | 29 => ("MoodTownModel", "moodRows", "[I", true)
  | 30 => ("MoodTownModel", "lanes", "[I", true)
  | 31 => ("MoodTownModel", "sizes", "[I", true)
  | 32 => ("MoodTownModel", "cells", "[I", true)
  | 33 => ("MoodTownModel", "torn", "I", false)
  | _ => ("MoodTownModel", "had", "[I", true)
def kY7 : Nat → FieldType := fun k => match k with
  | 0 => .array .int
  | 1 => .array .boolean
  | 2 => .int
  | 3 => .int
  | 4 => .int
  | 5 => .array .int
  | 6 => .int
  | 7 => .int
  | 8 => .int
  | 9 => .int
  | 10 => .int
  | 11 => .int
  | 12 => .array .int
  | 13 => .int
  | 14 => .int
  | 15 => .int
  | 16 => .int
  | 17 => .int
  | 18 => .int
  | 19 => .int
  | 20 => .array .int
  | 21 => .array .int
  | 22 => .array .int
  | 23 => .array .int
  | 24 => .array .int
  | 25 => .array .int
  | 26 => .array .int
  | 27 => .int
  | 28 => .array .int
  | 29 => .array .int
  | 30 => .array .int
  | 31 => .array .int
  | 32 => .array .int
  | 33 => .int
  | _ => .array .int
def kT (ci : Nat) : u_T := match ci with
  | 0 => kT0
  | 1 => kT1
  | 2 => kT2
  | 3 => kT3
  | 4 => kT4
  | 5 => kT5
  | 6 => kT6
  | _ => kT7
def kY (ci : Nat) : Nat → FieldType := match ci with
  | 0 => kY0
  | 1 => kY1
  | 2 => kY2
  | 3 => kY3
  | 4 => kY4
  | 5 => kY5
  | 6 => kY6
  | _ => kY7
def kM (ci : Nat) : Nat := match ci with
  | 0 => 3
  | 1 => 3
  | 2 => 6
  | 3 => 8
  | 4 => 14
  | 5 => 7
  | 6 => 9
  | _ => 35
def kZ (ci : Nat) : List Value := match ci with
  | 0 => [.null, .null, .null]
  | 1 => [.null, .int 0, .int 0]
  | 2 => [.null, .int 0, .int 0, .int 0, .int 0, .int 0]
  | 3 => [.null, .int 0, .int 0, .int 0, .null, .int 0, .int 0, .int 0]
  | 4 => [.int 0, .int 0, .int 0, .int 0, .int 0, .int 0, .int 0, .null, .null, .null, .null, .null, .null, .null]
  | 5 => [.null, .null, .null, .null, .null, .int 0, .int 0]
  | 6 => [.null, .null, .null, .null, .null, .null, .null, .int 0, .int 0]
  | _ => [.null, .null, .int 0, .int 0, .int 0, .null, .int 0, .int 0, .int 0, .int 0, .int 0, .int 0, .null, .int 0, .int 0, .int 0, .int 0, .int 0, .int 0, .int 0, .null, .null, .null, .null, .null, .null, .null, .int 0, .null, .null, .null, .null, .null, .int 0, .null]
def kC : List vw_C := [(kN 0, kT 0, kM 0), (kN 1, kT 1, kM 1), (kN 2, kT 2, kM 2), (kN 3, kT 3, kM 3), (kN 4, kT 4, kM 4), (kN 5, kT 5, kM 5), (kN 6, kT 6, kM 6), (kN 7, kT 7, kM 7)]
def kJ0 : List Nat := [291, 293, 295]
theorem kI0 : ∀ w ∈ u_ws (kN 0) (kT 0) (kM 0), w ∈ lw_gt := by
  have h : u_ws (kN 0) (kT 0) (kM 0) = kJ0.filterMap (fun i => lw_tbl[i]?) := by decide +kernel
  have hg : (u_ws (kN 0) (kT 0) (kM 0)).all goodWord = true := by decide +kernel
  intro w hw
  have hw2 := List.all_eq_true.mp hg w hw
  rw [h] at hw
  obtain ⟨i, -, hi⟩ := List.mem_filterMap.mp hw
  exact lw_gi i hi hw2
def kJ1 : List Nat := [312, 314, 316]
theorem kI1 : ∀ w ∈ u_ws (kN 1) (kT 1) (kM 1), w ∈ lw_gt := by
  have h : u_ws (kN 1) (kT 1) (kM 1) = kJ1.filterMap (fun i => lw_tbl[i]?) := by decide +kernel
  have hg : (u_ws (kN 1) (kT 1) (kM 1)).all goodWord = true := by decide +kernel
  intro w hw
  have hw2 := List.all_eq_true.mp hg w hw
  rw [h] at hw
  obtain ⟨i, -, hi⟩ := List.mem_filterMap.mp hw
  exact lw_gi i hi hw2
def kJ2 : List Nat := [100, 102, 104, 106, 108, 110]
theorem kI2 : ∀ w ∈ u_ws (kN 2) (kT 2) (kM 2), w ∈ lw_gt := by
  have h : u_ws (kN 2) (kT 2) (kM 2) = kJ2.filterMap (fun i => lw_tbl[i]?) := by decide +kernel
  have hg : (u_ws (kN 2) (kT 2) (kM 2)).all goodWord = true := by decide +kernel
  intro w hw
  have hw2 := List.all_eq_true.mp hg w hw
  rw [h] at hw
  obtain ⟨i, -, hi⟩ := List.mem_filterMap.mp hw
  exact lw_gi i hi hw2
def kJ3 : List Nat := [228, 230, 232, 234, 236, 238, 240, 242]
theorem kI3 : ∀ w ∈ u_ws (kN 3) (kT 3) (kM 3), w ∈ lw_gt := by
  have h : u_ws (kN 3) (kT 3) (kM 3) = kJ3.filterMap (fun i => lw_tbl[i]?) := by decide +kernel
  have hg : (u_ws (kN 3) (kT 3) (kM 3)).all goodWord = true := by decide +kernel
  intro w hw
  have hw2 := List.all_eq_true.mp hg w hw
  rw [h] at hw
  obtain ⟨i, -, hi⟩ := List.mem_filterMap.mp hw
  exact lw_gi i hi hw2
def kJ4 : List Nat := [186, 188, 190, 192, 194, 196, 198, 200, 202, 204, 206, 208, 210, 212]
theorem kI4 : ∀ w ∈ u_ws (kN 4) (kT 4) (kM 4), w ∈ lw_gt := by
  have h : u_ws (kN 4) (kT 4) (kM 4) = kJ4.filterMap (fun i => lw_tbl[i]?) := by decide +kernel
  have hg : (u_ws (kN 4) (kT 4) (kM 4)).all goodWord = true := by decide +kernel
  intro w hw
  have hw2 := List.all_eq_true.mp hg w hw
  rw [h] at hw
  obtain ⟨i, -, hi⟩ := List.mem_filterMap.mp hw
  exact lw_gi i hi hw2
def kJ5 : List Nat := [265, 267, 269, 271, 273, 275, 277]
theorem kI5 : ∀ w ∈ u_ws (kN 5) (kT 5) (kM 5), w ∈ lw_gt := by
  have h : u_ws (kN 5) (kT 5) (kM 5) = kJ5.filterMap (fun i => lw_tbl[i]?) := by decide +kernel
  have hg : (u_ws (kN 5) (kT 5) (kM 5)).all goodWord = true := by decide +kernel
  intro w hw
  have hw2 := List.all_eq_true.mp hg w hw
  rw [h] at hw
  obtain ⟨i, -, hi⟩ := List.mem_filterMap.mp hw
  exact lw_gi i hi hw2
def kJ6 : List Nat := [328, 330, 332, 334, 336, 338, 340, 342, 344]
theorem kI6 : ∀ w ∈ u_ws (kN 6) (kT 6) (kM 6), w ∈ lw_gt := by
  have h : u_ws (kN 6) (kT 6) (kM 6) = kJ6.filterMap (fun i => lw_tbl[i]?) := by decide +kernel
  have hg : (u_ws (kN 6) (kT 6) (kM 6)).all goodWord = true := by decide +kernel
  intro w hw
  have hw2 := List.all_eq_true.mp hg w hw
  rw [h] at hw
  obtain ⟨i, -, hi⟩ := List.mem_filterMap.mp hw
  exact lw_gi i hi hw2
def kJ7 : List Nat := [1020, 1022, 1024, 1026, 1028, 1030, 1032, 1034, 1036, 1038, 1040, 1042, 1044, 1046, 1048, 1050, 1052, 1054, 1056, 1058, 1060, 1062, 1064, 1066, 1068, 1070, 1072, 1074, 1076, 1078, 1080, 1082, 1084, 1086, 1088]
theorem kI7 : ∀ w ∈ u_ws (kN 7) (kT 7) (kM 7), w ∈ lw_gt := by
  have h : u_ws (kN 7) (kT 7) (kM 7) = kJ7.filterMap (fun i => lw_tbl[i]?) := by decide +kernel
  have hg : (u_ws (kN 7) (kT 7) (kM 7)).all goodWord = true := by decide +kernel
  intro w hw
  have hw2 := List.all_eq_true.mp hg w hw
  rw [h] at hw
  obtain ⟨i, -, hi⟩ := List.mem_filterMap.mp hw
  exact lw_gi i hi hw2
theorem kI (ci : Nat) (h : ci < 8) : ∀ w ∈ u_ws (kN ci) (kT ci) (kM ci), w ∈ lw_gt := by
  match ci, h with
  | 0, _ => exact kI0
  | 1, _ => exact kI1
  | 2, _ => exact kI2
  | 3, _ => exact kI3
  | 4, _ => exact kI4
  | 5, _ => exact kI5
  | 6, _ => exact kI6
  | 7, _ => exact kI7
theorem kCi (ci : Nat) (h : ci < 8) : kC[ci]? = some (kN ci, kT ci, kM ci) := by
  match ci, h with
  | 0, _ => rfl
  | 1, _ => rfl
  | 2, _ => rfl
  | 3, _ => rfl
  | 4, _ => rfl
  | 5, _ => rfl
  | 6, _ => rfl
  | 7, _ => rfl
theorem kYok (ci : Nat) (h : ci < 8) : ∀ k, k < kM ci → parseFieldDescriptor (kT ci k).2.2.1 = some (kY ci k) := by
  match ci, h with
  | 0, _ => decide +kernel
  | 1, _ => decide +kernel
  | 2, _ => decide +kernel
  | 3, _ => decide +kernel
  | 4, _ => decide +kernel
  | 5, _ => decide +kernel
  | 6, _ => decide +kernel
  | 7, _ => decide +kernel
theorem kNm (ci : Nat) (h : ci < 8) : ∀ a, a < kM ci → ∀ b, b < kM ci → a ≠ b → (kT ci a).2.1 ≠ (kT ci b).2.1 := by
  match ci, h with
  | 0, _ => decide +kernel
  | 1, _ => decide +kernel
  | 2, _ => decide +kernel
  | 3, _ => decide +kernel
  | 4, _ => decide +kernel
  | 5, _ => decide +kernel
  | 6, _ => decide +kernel
  | 7, _ => decide +kernel
theorem kZok (ci : Nat) (h : ci < 8) : ∀ j, j < kM ci → defaultValue (kY ci j) = vp_V (kZ ci) j := by
  match ci, h with
  | 0, _ => decide +kernel
  | 1, _ => decide +kernel
  | 2, _ => decide +kernel
  | 3, _ => decide +kernel
  | 4, _ => decide +kernel
  | 5, _ => decide +kernel
  | 6, _ => decide +kernel
  | 7, _ => decide +kernel
theorem kTown (ci : Nat) (h : ci < 8) : ∀ k, k < kM ci → (kT ci k).1 = kN ci := by
  match ci, h with
  | 0, _ => decide +kernel
  | 1, _ => decide +kernel
  | 2, _ => decide +kernel
  | 3, _ => decide +kernel
  | 4, _ => decide +kernel
  | 5, _ => decide +kernel
  | 6, _ => decide +kernel
  | 7, _ => decide +kernel
end
section
/-! THE PURE MACHINE. A reference is a number: 0 the script, 8 + i the i-th cell that the run has made. -/
/-- the texts of the seven string constants (references 1 to 7) -/
def sg_len : List Nat := [4, 4, 2, 5, 4, 5, 4]
def sg_byt : List (List Int32) := [[116, 111, 119, 110], [119, 97, 108, 108], [97, 116], [115, 116, 105, 108, 108], [112, 117, 108, 108], [112, 114, 101, 115, 115], [103, 111, 97, 108]]
abbrev pm_C : Type := (Nat × List Int32) ⊕ ((Nat × List Int64) ⊕ ((Nat × List (Option Nat)) ⊕ (Nat × List Value)))
abbrev pm_H : Type := List pm_C
abbrev pm_L : Type := List (Nat × Value)
abbrev pm_R : Type := Option (Option Value × pm_H)
abbrev pm_E : Type := Instr × Nat × Nat × Int
abbrev pm_K : Type := Nat → pm_L → List Value → pm_H → Nat → Nat → pm_R
/-- a method: name, bytes, locals, answer, class, arguments (the receiver too), frames, words, cells, slots, code -/
abbrev pm_M : Type := MethodName × ByteArray × Nat × Option FieldType × Nat × Nat × Nat × Nat × Nat × Nat × List (List (Option pm_E))
def pm_y (m : pm_M) : MethodName := m.1
def pm_b (m : pm_M) : ByteArray := m.2.1
def pm_ml (m : pm_M) : Nat := m.2.2.1
def pm_rt (m : pm_M) : Option FieldType := m.2.2.2.1
def pm_o (m : pm_M) : Nat := m.2.2.2.2.1
def pm_n (m : pm_M) : Nat := m.2.2.2.2.2.1
def pm_f (m : pm_M) : Nat := m.2.2.2.2.2.2.1
def pm_w (m : pm_M) : Nat := m.2.2.2.2.2.2.2.1
def pm_c (m : pm_M) : Nat := m.2.2.2.2.2.2.2.2.1
def pm_s (m : pm_M) : Nat := m.2.2.2.2.2.2.2.2.2.1
def pm_t (m : pm_M) : List (List (Option pm_E)) := m.2.2.2.2.2.2.2.2.2.2
def pm_rm (m : pm_M) : Room := { frames := pm_f m, cells := pm_c m, slots := pm_s m, locals := pm_w m }
def pm_at (m : pm_M) (pc : Nat) : Option pm_E := match (pm_t m)[pc / 16]? with
  | none => none
  | some ch => match ch[pc % 16]? with
    | some (some e) => some e
    | _ => none
def pm_len : Instr → Nat
  | .bipush _ | .ldc _ | .iload _ | .lload _ | .aload _ | .istore _ | .lstore _ | .astore _ | .newarray _ => 2
  | .sipush _ | .ldc_w _ | .ldc2_w _ | .iinc _ _ | .ifCond _ _ | .if_icmp _ _ | .goto _ | .getfield _ | .putfield _ | .invokevirtual _ | .invokespecial _ | .invokestatic _ | .new _ | .anewarray _ => 3
  | _ => 1
def pm_cell (h : pm_H) (a : Nat) : Option pm_C := if a < 8 then none else h[a - 8]?
/-- a place in the order of the numbers -/
def pm_plc {α : Type} (i : Nat) (v : α) : List (Nat × α) → List (Nat × α)
  | [] => [(i, v)]
  | q :: r => if q.1 < i then q :: pm_plc i v r else (i, v) :: q :: r
def pm_s1 (lv : pm_L) (i : Nat) (v : Value) : pm_L := pm_plc i v (lv.filter (fun q => !(q.1 == i) && !(q.1 + 1 == i && q.2.category == 2)))
def pm_s2 (lv : pm_L) (i : Nat) (v : Value) : pm_L := pm_plc i v (lv.filter (fun q => !(q.1 == i) && (!(q.1 == i + 1) && !(q.1 + 1 == i && q.2.category == 2))))
def pm_fit : FieldType → Value → Bool
  | .int, .int _ => true
  | .long, .long _ => true
  | .boolean, .int v => v == 0 || v == 1
  | .object _, .ref _ => true
  | .array _, .ref _ => true
  | _, _ => false
def pm_cpy {α : Type} (f g : List α) (sp dp n : Nat) : List α := g.take dp ++ ((f.drop sp).take n ++ g.drop (dp + n))
section Step
variable (k : pm_K)
def pm_bi (f : Int32 → Int32 → Int32) (pc : Nat) (lv : pm_L) (st : List Value) (h : pm_H) (c sl : Nat) : pm_R := match st with
  | .int y :: .int x :: r => k (pc + 1) lv (.int (f x y) :: r) h c sl
  | _ => none
def pm_bz (f : Int32 → Int32 → Int32) (pc : Nat) (lv : pm_L) (st : List Value) (h : pm_H) (c sl : Nat) : pm_R := match st with
  | .int y :: .int x :: r => if y = 0 then none else k (pc + 1) lv (.int (f x y) :: r) h c sl
  | _ => none
def pm_bl (f : Int64 → Int64 → Int64) (pc : Nat) (lv : pm_L) (st : List Value) (h : pm_H) (c sl : Nat) : pm_R := match st with
  | .long y :: .long x :: r => k (pc + 1) lv (.long (f x y) :: r) h c sl
  | _ => none
def pm_blz (f : Int64 → Int64 → Int64) (pc : Nat) (lv : pm_L) (st : List Value) (h : pm_H) (c sl : Nat) : pm_R := match st with
  | .long y :: .long x :: r => if y = 0 then none else k (pc + 1) lv (.long (f x y) :: r) h c sl
  | _ => none
def pm_u (f : Int32 → Int32) (pc : Nat) (lv : pm_L) (st : List Value) (h : pm_H) (c sl : Nat) : pm_R := match st with
  | .int x :: r => k (pc + 1) lv (.int (f x) :: r) h c sl
  | _ => none
def pm_ldi (i npc : Nat) (lv : pm_L) (st : List Value) (h : pm_H) (c sl : Nat) : pm_R := match lv.lookup i with
  | some (.int x) => k npc lv (.int x :: st) h c sl
  | _ => none
def pm_ldl (i npc : Nat) (lv : pm_L) (st : List Value) (h : pm_H) (c sl : Nat) : pm_R := match lv.lookup i with
  | some (.long x) => k npc lv (.long x :: st) h c sl
  | _ => none
def pm_lda (i npc : Nat) (lv : pm_L) (st : List Value) (h : pm_H) (c sl : Nat) : pm_R := match lv.lookup i with
  | some (.ref x) => k npc lv (.ref x :: st) h c sl
  | _ => none
def pm_sti (nL i npc : Nat) (lv : pm_L) (st : List Value) (h : pm_H) (c sl : Nat) : pm_R := match st with
  | .int x :: r => if i < nL then k npc (pm_s1 lv i (.int x)) r h c sl else none
  | _ => none
def pm_sta (nL i npc : Nat) (lv : pm_L) (st : List Value) (h : pm_H) (c sl : Nat) : pm_R := match st with
  | .ref x :: r => if i < nL then k npc (pm_s1 lv i (.ref x)) r h c sl else none
  | _ => none
def pm_stl (nL i npc : Nat) (lv : pm_L) (st : List Value) (h : pm_H) (c sl : Nat) : pm_R := match st with
  | .long x :: r => if i + 1 < nL then k npc (pm_s2 lv i (.long x)) r h c sl else none
  | _ => none
def pm_iinc (nL i : Nat) (n : Int) (pc : Nat) (lv : pm_L) (st : List Value) (h : pm_H) (c sl : Nat) : pm_R := match lv.lookup i with
  | some (.int x) => if i < nL then k (pc + 3) (pm_s1 lv i (.int (x + Int32.ofInt n))) st h c sl else none
  | _ => none
def pm_if (cd : ClassFile.Cond) (tgt pc : Nat) (lv : pm_L) (st : List Value) (h : pm_H) (c sl : Nat) : pm_R := match st with
  | .int x :: r => match cd with
    | .eq => if x = 0 then k tgt lv r h c sl else k (pc + 3) lv r h c sl
    | .ne => if x = 0 then k (pc + 3) lv r h c sl else k tgt lv r h c sl
    | .lt => if x < 0 then k tgt lv r h c sl else k (pc + 3) lv r h c sl
    | .ge => if 0 ≤ x then k tgt lv r h c sl else k (pc + 3) lv r h c sl
    | .gt => if 0 < x then k tgt lv r h c sl else k (pc + 3) lv r h c sl
    | .le => if x ≤ 0 then k tgt lv r h c sl else k (pc + 3) lv r h c sl
  | _ => none
def pm_ic (cd : ClassFile.Cond) (tgt pc : Nat) (lv : pm_L) (st : List Value) (h : pm_H) (c sl : Nat) : pm_R := match st with
  | .int y :: .int x :: r => match cd with
    | .eq => if x = y then k tgt lv r h c sl else k (pc + 3) lv r h c sl
    | .ne => if x = y then k (pc + 3) lv r h c sl else k tgt lv r h c sl
    | .lt => if x < y then k tgt lv r h c sl else k (pc + 3) lv r h c sl
    | .ge => if y ≤ x then k tgt lv r h c sl else k (pc + 3) lv r h c sl
    | .gt => if y < x then k tgt lv r h c sl else k (pc + 3) lv r h c sl
    | .le => if x ≤ y then k tgt lv r h c sl else k (pc + 3) lv r h c sl
  | _ => none
def pm_jump (t : Int) (lv : pm_L) (st : List Value) (h : pm_H) (c sl : Nat) : pm_R := if 0 ≤ t then k t.toNat lv st h c sl else none
def pm_tsw (d lo hi : Int) (offs : Array Int) (pc : Nat) (lv : pm_L) (st : List Value) (h : pm_H) (c sl : Nat) : pm_R := match st with
  | .int x :: r => if x.toInt < lo then pm_jump k ((pc : Int) + d) lv r h c sl
    else if hi < x.toInt then pm_jump k ((pc : Int) + d) lv r h c sl
    else match offs[(x.toInt - lo).toNat]? with
      | some off => pm_jump k ((pc : Int) + off) lv r h c sl
      | none => none
  | _ => none
def pm_getf (ci f pc : Nat) (lv : pm_L) (st : List Value) (h : pm_H) (c sl : Nat) : pm_R := match st with
  | .ref a :: r => match pm_cell h a with
    | some (.inr (.inr (.inr (cj, fs)))) => if cj = ci then (match fs[f]? with
      | some v => k (pc + 3) lv (v :: r) h c sl
      | none => none) else none
    | _ => none
  | _ => none
def pm_putf (ci f pc : Nat) (lv : pm_L) (st : List Value) (h : pm_H) (c sl : Nat) : pm_R := match st with
  | v :: .ref a :: r => match pm_cell h a with
    | some (.inr (.inr (.inr (cj, fs)))) => if cj = ci then (if f < fs.length then (match pm_fit (kY ci f) v with
      | true => k (pc + 3) lv r (h.set (a - 8) (.inr (.inr (.inr (ci, fs.set f v))))) c sl
      | false => none) else none) else none
    | _ => none
  | _ => none
def pm_iald (xs : List Int32) (pc : Nat) (lv : pm_L) (st : List Value) (h : pm_H) (c sl : Nat) : pm_R := match st with
  | .int i :: .ref a :: r => if i < 0 then none else if a = 0 then (match xs[i.toNatClampNeg]? with
      | some x => k (pc + 1) lv (.int x :: r) h c sl
      | none => none)
    else match pm_cell h a with
      | some (.inl (t, l)) => if t = 0 then (match l[i.toNatClampNeg]? with
        | some x => k (pc + 1) lv (.int x :: r) h c sl
        | none => none) else none
      | _ => none
  | _ => none
def pm_bald (pc : Nat) (lv : pm_L) (st : List Value) (h : pm_H) (c sl : Nat) : pm_R := match st with
  | .int i :: .ref a :: r => if i < 0 then none else match pm_cell h a with
      | some (.inl (t, l)) => if t = 1 ∨ t = 2 then (match l[i.toNatClampNeg]? with
        | some x => k (pc + 1) lv (.int x :: r) h c sl
        | none => none) else none
      | _ => none
  | _ => none
def pm_lald (pc : Nat) (lv : pm_L) (st : List Value) (h : pm_H) (c sl : Nat) : pm_R := match st with
  | .int i :: .ref a :: r => if i < 0 then none else match pm_cell h a with
      | some (.inr (.inl (t, l))) => if t = 3 then (match l[i.toNatClampNeg]? with
        | some x => k (pc + 1) lv (.long x :: r) h c sl
        | none => none) else none
      | _ => none
  | _ => none
def pm_aald (pc : Nat) (lv : pm_L) (st : List Value) (h : pm_H) (c sl : Nat) : pm_R := match st with
  | .int i :: .ref a :: r => if i < 0 then none else match pm_cell h a with
      | some (.inr (.inr (.inl (t, l)))) => if t = 4 ∨ t = 5 then (match l[i.toNatClampNeg]? with
        | some (some x) => k (pc + 1) lv (.ref x :: r) h c sl
        | _ => none) else none
      | _ => none
  | _ => none
def pm_iast (pc : Nat) (lv : pm_L) (st : List Value) (h : pm_H) (c sl : Nat) : pm_R := match st with
  | .int x :: .int i :: .ref a :: r => if i < 0 then none else match pm_cell h a with
      | some (.inl (t, l)) => if t = 0 then (if i.toNatClampNeg < l.length then k (pc + 1) lv r (h.set (a - 8) (.inl (0, l.set i.toNatClampNeg x))) c sl else none) else none
      | _ => none
  | _ => none
def pm_bast (pc : Nat) (lv : pm_L) (st : List Value) (h : pm_H) (c sl : Nat) : pm_R := match st with
  | .int x :: .int i :: .ref a :: r => if i < 0 then none else match pm_cell h a with
      | some (.inl (t, l)) => if t = 1 then (if i.toNatClampNeg < l.length then k (pc + 1) lv r (h.set (a - 8) (.inl (1, l.set i.toNatClampNeg x.toInt8.toInt32))) c sl else none)
        else if t = 2 then (if i.toNatClampNeg < l.length then k (pc + 1) lv r (h.set (a - 8) (.inl (2, l.set i.toNatClampNeg (x &&& 1)))) c sl else none) else none
      | _ => none
  | _ => none
def pm_last (pc : Nat) (lv : pm_L) (st : List Value) (h : pm_H) (c sl : Nat) : pm_R := match st with
  | .long x :: .int i :: .ref a :: r => if i < 0 then none else match pm_cell h a with
      | some (.inr (.inl (t, l))) => if t = 3 then (if i.toNatClampNeg < l.length then k (pc + 1) lv r (h.set (a - 8) (.inr (.inl (3, l.set i.toNatClampNeg x)))) c sl else none) else none
      | _ => none
  | _ => none
def pm_comp (t : Nat) : Nat := if t = 4 then 4 else 1
def pm_aast (pc : Nat) (lv : pm_L) (st : List Value) (h : pm_H) (c sl : Nat) : pm_R := match st with
  | .ref v :: .int i :: .ref a :: r => if i < 0 then none else match pm_cell h a, pm_cell h v with
      | some (.inr (.inr (.inl (t, l)))), some (.inr (.inr (.inr (cj, _)))) => if t = 4 ∨ t = 5 then (if cj = pm_comp t then (if i.toNatClampNeg < l.length then k (pc + 1) lv r (h.set (a - 8) (.inr (.inr (.inl (t, l.set i.toNatClampNeg (some v)))))) c sl else none) else none) else none
      | _, _ => none
  | _ => none
def pm_alen (xs : List Int32) (pc : Nat) (lv : pm_L) (st : List Value) (h : pm_H) (c sl : Nat) : pm_R := match st with
  | .ref a :: r => if a = 0 then k (pc + 1) lv (.int (Int32.ofNat xs.length) :: r) h c sl else match pm_cell h a with
      | some (.inl (t, l)) => if t < 3 then k (pc + 1) lv (.int (Int32.ofNat l.length) :: r) h c sl else none
      | _ => none
  | _ => none
def pm_new (mm : pm_M) (ci pc : Nat) (lv : pm_L) (st : List Value) (h : pm_H) (c sl : Nat) : pm_R :=
  if c + 1 ≤ pm_c mm then (if sl + kM ci ≤ pm_s mm then k (pc + 3) lv (.ref (8 + h.length) :: st) (h ++ [.inr (.inr (.inr (ci, kZ ci)))]) (c + 1) (sl + kM ci) else none) else none
def pm_newa (mm : pm_M) (at_ : ArrayType) (pc : Nat) (lv : pm_L) (st : List Value) (h : pm_H) (c sl : Nat) : pm_R := match st with
  | .int n :: r => if n < 0 then none else if n.toNatClampNeg ≤ 1000000 then (if c + 1 ≤ pm_c mm then (if sl + n.toNatClampNeg ≤ pm_s mm then (match at_ with
      | .int => k (pc + 2) lv (.ref (8 + h.length) :: r) (h ++ [.inl (0, List.replicate n.toNatClampNeg 0)]) (c + 1) (sl + n.toNatClampNeg)
      | .byte => k (pc + 2) lv (.ref (8 + h.length) :: r) (h ++ [.inl (1, List.replicate n.toNatClampNeg 0)]) (c + 1) (sl + n.toNatClampNeg)
      | .boolean => k (pc + 2) lv (.ref (8 + h.length) :: r) (h ++ [.inl (2, List.replicate n.toNatClampNeg 0)]) (c + 1) (sl + n.toNatClampNeg)
      | .long => k (pc + 2) lv (.ref (8 + h.length) :: r) (h ++ [.inr (.inl (3, List.replicate n.toNatClampNeg 0))]) (c + 1) (sl + n.toNatClampNeg)
      | _ => none) else none) else none) else none
  | _ => none
def pm_anew (mm : pm_M) (t pc : Nat) (lv : pm_L) (st : List Value) (h : pm_H) (c sl : Nat) : pm_R := match st with
  | .int n :: r => if n < 0 then none else if n.toNatClampNeg ≤ 1000000 then (if c + 1 ≤ pm_c mm then (if sl + n.toNatClampNeg ≤ pm_s mm then
      k (pc + 3) lv (.ref (8 + h.length) :: r) (h ++ [.inr (.inr (.inl (t, List.replicate n.toNatClampNeg none)))]) (c + 1) (sl + n.toNatClampNeg) else none) else none) else none
  | _ => none
def pm_copy (pc : Nat) (lv : pm_L) (st : List Value) (h : pm_H) (c sl : Nat) : pm_R := match st with
  | [.int n, .int dp, .ref a, .int sp, .ref b] => if sp < 0 then none else if dp < 0 then none else if n < 0 then none else match pm_cell h a, pm_cell h b with
      | some (.inl (t, g)), some (.inl (u, f)) => if t = 0 ∧ u = 0 then (if sp.toNatClampNeg + n.toNatClampNeg ≤ f.length then (if dp.toNatClampNeg + n.toNatClampNeg ≤ g.length then
          k (pc + 3) lv [] (h.set (a - 8) (.inl (0, pm_cpy f g sp.toNatClampNeg dp.toNatClampNeg n.toNatClampNeg))) c sl else none) else none) else none
      | _, _ => none
  | _ => none
def pm_call (big : Nat → List Value → pm_H → pm_R) (mm m2 : pm_M) (M2 : Nat) (pc : Nat) (lv : pm_L) (as rest : List Value) (h : pm_H) (c sl : Nat) : pm_R :=
  if (rest.map Value.category).sum ≤ 8 then (if c + pm_c m2 ≤ pm_c mm then (if sl + pm_s m2 ≤ pm_s mm then (match big M2 as h with
    | some (r, h') => k (pc + 3) lv (r.toList ++ rest) h' (c + pm_c m2) (sl + pm_s m2)
    | none => none) else none) else none) else none
def pm_inv (tab : Nat → Option pm_M) (big : Nat → List Value → pm_H → pm_R) (mm : pm_M) (M2 : Nat) (pc : Nat) (lv : pm_L) (st : List Value) (h : pm_H) (c sl : Nat) : pm_R := match tab M2 with
  | none => none
  | some m2 => if pm_n m2 ≤ st.length then (match (st.take (pm_n m2)).reverse with
      | .ref a :: as => (match pm_cell h a with
        | some (.inr (.inr (.inr (cj, _)))) => if cj = pm_o m2 then pm_call k big mm m2 M2 pc lv (.ref a :: as) (st.drop (pm_n m2)) h c sl else none
        | _ => none)
      | _ => none) else none
def pm_ins (tab : Nat → Option pm_M) (big : Nat → List Value → pm_H → pm_R) (mm : pm_M) (M2 : Nat) (pc : Nat) (lv : pm_L) (st : List Value) (h : pm_H) (c sl : Nat) : pm_R := match tab M2 with
  | none => none
  | some m2 => if pm_n m2 ≤ st.length then pm_call k big mm m2 M2 pc lv (st.take (pm_n m2)).reverse (st.drop (pm_n m2)) h c sl else none
def pm_obj (pc : Nat) (lv : pm_L) (st : List Value) (h : pm_H) (c sl : Nat) : pm_R := match st with
  | [.ref _] => k (pc + 3) lv [] h c sl
  | _ => none
def pm_dup (pc : Nat) (lv : pm_L) (st : List Value) (h : pm_H) (c sl : Nat) : pm_R := match st with
  | v :: r => if v.category = 1 then k (pc + 1) lv (v :: v :: r) h c sl else none
  | _ => none
def pm_dup2 (pc : Nat) (lv : pm_L) (st : List Value) (h : pm_H) (c sl : Nat) : pm_R := match st with
  | v :: w :: r => if v.category = 1 then (if w.category = 1 then k (pc + 1) lv (v :: w :: v :: w :: r) h c sl else none) else none
  | _ => none
def pm_pop (pc : Nat) (lv : pm_L) (st : List Value) (h : pm_H) (c sl : Nat) : pm_R := match st with
  | v :: r => if v.category = 1 then k (pc + 1) lv r h c sl else none
  | _ => none
def pm_pop2 (pc : Nat) (lv : pm_L) (st : List Value) (h : pm_H) (c sl : Nat) : pm_R := match st with
  | v :: r => if v.category = 2 then k (pc + 1) lv r h c sl else none
  | _ => none
def pm_lcmp (pc : Nat) (lv : pm_L) (st : List Value) (h : pm_H) (c sl : Nat) : pm_R := match st with
  | .long y :: .long x :: r => k (pc + 1) lv (.int (lg_cmp x y) :: r) h c sl
  | _ => none
def pm_ldcs (b pc : Nat) (lv : pm_L) (st : List Value) (h : pm_H) (c sl : Nat) : pm_R := if 1 ≤ b then (if b ≤ 7 then k (pc + 2) lv (.ref b :: st) h c sl else none) else none
def pm_slen (pc : Nat) (lv : pm_L) (st : List Value) (h : pm_H) (c sl : Nat) : pm_R := match st with
  | .ref b :: r => if 1 ≤ b then (if b ≤ 7 then (if (r.map Value.category).sum ≤ 8 then k (pc + 3) lv (.int (Int32.ofNat (sg_len.getD (b - 1) 0)) :: r) h c sl else none) else none) else none
  | _ => none
def pm_sch (pc : Nat) (lv : pm_L) (st : List Value) (h : pm_H) (c sl : Nat) : pm_R := match st with
  | .int j :: .ref b :: r => if 1 ≤ b then (if b ≤ 7 then (if j < 0 then none else (if j.toNatClampNeg < sg_len.getD (b - 1) 0 then (if (r.map Value.category).sum ≤ 8 then k (pc + 3) lv (.int ((sg_byt.getD (b - 1) []).getD j.toNatClampNeg 0) :: r) h c sl else none) else none)) else none) else none
  | _ => none
def pm_i2l (pc : Nat) (lv : pm_L) (st : List Value) (h : pm_H) (c sl : Nat) : pm_R := match st with
  | .int x :: r => k (pc + 1) lv (.long x.toInt64 :: r) h c sl
  | _ => none
end Step
def pm_ret (mm : pm_M) (st : List Value) (h : pm_H) : pm_R := match st, pm_rt mm with
  | [.int v], some ty => (match pm_fit ty (.int v) with
    | true => some (some (.int v), h)
    | false => none)
  | _, _ => none
def pm_retl (mm : pm_M) (st : List Value) (h : pm_H) : pm_R := match st, pm_rt mm with
  | [.long v], some .long => some (some (.long v), h)
  | _, _ => none
def pm_reta (mm : pm_M) (st : List Value) (h : pm_H) : pm_R := match st, pm_rt mm with
  | [.ref v], some (.object _) => some (some (.ref v), h)
  | _, _ => none
def pm_retv (mm : pm_M) (st : List Value) (h : pm_H) : pm_R := match st, pm_rt mm with
  | [], none => some (none, h)
  | _, _ => none
def pm_step (xs : List Int32) (tab : Nat → Option pm_M) (big : Nat → List Value → pm_H → pm_R) (mm : pm_M) (k : pm_K) (e : pm_E) (pc : Nat) (lv : pm_L) (st : List Value) (h : pm_H) (c sl : Nat) : pm_R := match e.1 with
  | .iconst n => k (pc + 1) lv (.int (Int32.ofInt n) :: st) h c sl
  | .bipush n => k (pc + 2) lv (.int (Int8.ofInt n).toInt32 :: st) h c sl
  | .sipush n => k (pc + 3) lv (.int (Int16.ofInt n).toInt32 :: st) h c sl
  | .lconst n => k (pc + 1) lv (.long (Int64.ofNat n) :: st) h c sl
  | .ldc _ => if e.2.1 = 0 then k (pc + 2) lv (.int (Int32.ofInt e.2.2.2) :: st) h c sl else if e.2.1 = 1 then pm_ldcs k e.2.2.1 pc lv st h c sl else none
  | .ldc_w _ => if e.2.1 = 0 then k (pc + 3) lv (.int (Int32.ofInt e.2.2.2) :: st) h c sl else none
  | .ldc2_w _ => k (pc + 3) lv (.long (Int64.ofInt e.2.2.2) :: st) h c sl
  | .iload_n i => pm_ldi k i (pc + 1) lv st h c sl
  | .iload i => pm_ldi k i (pc + 2) lv st h c sl
  | .lload_n i => pm_ldl k i (pc + 1) lv st h c sl
  | .lload i => pm_ldl k i (pc + 2) lv st h c sl
  | .aload_n i => pm_lda k i (pc + 1) lv st h c sl
  | .aload i => pm_lda k i (pc + 2) lv st h c sl
  | .istore_n i => pm_sti k (pm_ml mm) i (pc + 1) lv st h c sl
  | .istore i => pm_sti k (pm_ml mm) i (pc + 2) lv st h c sl
  | .lstore_n i => pm_stl k (pm_ml mm) i (pc + 1) lv st h c sl
  | .lstore i => pm_stl k (pm_ml mm) i (pc + 2) lv st h c sl
  | .astore_n i => pm_sta k (pm_ml mm) i (pc + 1) lv st h c sl
  | .astore i => pm_sta k (pm_ml mm) i (pc + 2) lv st h c sl
  | .iinc i n => pm_iinc k (pm_ml mm) i n pc lv st h c sl
  | .iadd => pm_bi k (fun x y => x + y) pc lv st h c sl
  | .isub => pm_bi k (fun x y => x - y) pc lv st h c sl
  | .imul => pm_bi k (fun x y => x * y) pc lv st h c sl
  | .iand => pm_bi k (fun x y => x &&& y) pc lv st h c sl
  | .ior => pm_bi k (fun x y => x ||| y) pc lv st h c sl
  | .ixor => pm_bi k (fun x y => x ^^^ y) pc lv st h c sl
  | .ishl => pm_bi k (fun x y => x <<< (y &&& 31)) pc lv st h c sl
  | .ishr => pm_bi k (fun x y => x >>> (y &&& 31)) pc lv st h c sl
  | .iushr => pm_bi k (fun x y => (x.toUInt32 >>> (y.toUInt32 &&& Int32.toUInt32 31)).toInt32) pc lv st h c sl
  | .idiv => pm_bz k (fun x y => x / y) pc lv st h c sl
  | .irem => pm_bz k (fun x y => x - x / y * y) pc lv st h c sl
  | .ladd => pm_bl k (fun x y => x + y) pc lv st h c sl
  | .lmul => pm_bl k (fun x y => x * y) pc lv st h c sl
  | .ldiv => pm_blz k (fun x y => x / y) pc lv st h c sl
  | .lrem => pm_blz k (fun x y => x - x / y * y) pc lv st h c sl
  | .ineg => pm_u k (fun x => -x) pc lv st h c sl
  | .i2b => pm_u k (fun x => x.toInt8.toInt32) pc lv st h c sl
  | .i2s => pm_u k (fun x => x.toInt16.toInt32) pc lv st h c sl
  | .i2l => pm_i2l k pc lv st h c sl
  | .lcmp => pm_lcmp k pc lv st h c sl
  | .dup => pm_dup k pc lv st h c sl
  | .dup2 => pm_dup2 k pc lv st h c sl
  | .pop => pm_pop k pc lv st h c sl
  | .pop2 => pm_pop2 k pc lv st h c sl
  | .ifCond cd _ => pm_if k cd e.2.1 pc lv st h c sl
  | .if_icmp cd _ => pm_ic k cd e.2.1 pc lv st h c sl
  | .goto _ => k e.2.1 lv st h c sl
  | .tableswitch d lo hi offs => pm_tsw k d lo hi offs pc lv st h c sl
  | .getfield _ => pm_getf k e.2.1 e.2.2.1 pc lv st h c sl
  | .putfield _ => pm_putf k e.2.1 e.2.2.1 pc lv st h c sl
  | .iaload => pm_iald k xs pc lv st h c sl
  | .baload => pm_bald k pc lv st h c sl
  | .laload => pm_lald k pc lv st h c sl
  | .aaload => pm_aald k pc lv st h c sl
  | .iastore => pm_iast k pc lv st h c sl
  | .bastore => pm_bast k pc lv st h c sl
  | .lastore => pm_last k pc lv st h c sl
  | .aastore => pm_aast k pc lv st h c sl
  | .arraylength => pm_alen k xs pc lv st h c sl
  | .new _ => pm_new k mm e.2.1 pc lv st h c sl
  | .newarray at_ => pm_newa k mm at_ pc lv st h c sl
  | .anewarray _ => pm_anew k mm e.2.1 pc lv st h c sl
  | .invokevirtual _ => if e.2.2.1 = 0 then pm_inv k tab big mm e.2.1 pc lv st h c sl else if e.2.2.1 = 4 then pm_slen k pc lv st h c sl else if e.2.2.1 = 5 then pm_sch k pc lv st h c sl else none
  | .invokespecial _ => if e.2.2.1 = 1 then pm_inv k tab big mm e.2.1 pc lv st h c sl else if e.2.2.1 = 9 then pm_obj k pc lv st h c sl else none
  | .invokestatic _ => if e.2.2.1 = 8 then pm_copy k pc lv st h c sl else if e.2.2.1 = 2 ∨ e.2.2.1 = 3 then pm_ins k tab big mm e.2.1 pc lv st h c sl else none
  | .ireturn => pm_ret mm st h
  | .lreturn => pm_retl mm st h
  | .areturn => pm_reta mm st h
  | .return_ => pm_retv mm st h
  | _ => none
def pm_next (xs : List Int32) (tab : Nat → Option pm_M) (big : Nat → List Value → pm_H → pm_R) (mm : pm_M) (k : pm_K) : pm_K := fun pc lv st h c sl => match pm_at mm pc with
  | some e => pm_step xs tab big mm k e pc lv st h c sl
  | none => none
/-- n steps at most in this frame -/
noncomputable def pm_run (xs : List Int32) (tab : Nat → Option pm_M) (big : Nat → List Value → pm_H → pm_R) (mm : pm_M) (n : Nat) : pm_K := Nat.rec (motive := fun _ => pm_K) (fun _ _ _ _ _ _ => none) (fun _ k => pm_next xs tab big mm k) n
def pm_words (vs : List Value) : Nat := (vs.map Value.category).sum
/-- a call, d frames deep at most, N steps in each frame -/
noncomputable def pm_big (xs : List Int32) (tab : Nat → Option pm_M) (N : Nat) (d : Nat) : Nat → List Value → pm_H → pm_R := Nat.rec (motive := fun _ => Nat → List Value → pm_H → pm_R) (fun _ _ _ => none) (fun _ big M as h => match tab M with
  | some mm => if pm_words as ≤ pm_ml mm then (if as.length = pm_n mm then pm_run xs tab big mm N 0 (lv_args 0 as) [] h 0 0 else none) else none
  | none => none) d
end
section
/-! THE WORLD OF THE STRING CONSTANTS: pure references 1 to 7. -/
def sg_ref : List (Nat × String) := [(76, "town"), (85, "wall"), (90, "at"), (96, "still"), (98, "pull"), (103, "press"), (108, "goal")]
def sg_ix (i : Nat) : Nat := (sg_ref.getD i (0, "")).1
def sg_tx (i : Nat) : String := (sg_ref.getD i (0, "")).2
def sg_W (pre : Nat → Nat) (base : Nat) (U : State) (H : Heap) : Prop :=
  vk_S 7 sg_len sg_byt (fun i => pre (i + 1)) (fun i => pre (i + 8)) (fun q => base ≤ q) U H ∧ (∀ i : Nat, i < 7 → vk_R "MoodTown$Telling" (sg_ix i) (sg_tx i) (pre (i + 1)) U) ∧ va_Z "java/lang/String" "COMPACT_STRINGS" "Z" (.int 1) (fun q => base ≤ q) U H ∧ va_Zq "jdk/internal/util/Preconditions" "SIOOBE_FORMATTER" "Ljava/util/function/BiFunction;" (fun q => base ≤ q) U H
/-- the script and the constants -/
def pm_Xs (pre : Nat → Nat) (base : Nat) (xs : List Int32) (U : State) (H : Heap) : Prop := va_X (pre 0) xs.length (fun j => xs.getD j 0) U H ∧ sg_W pre base U H
theorem pm_Xs.same {pre : Nat → Nat} {base : Nat} {xs : List Int32} {u U : State} {H : Heap} (hv : U.vm = u.vm) (h : pm_Xs pre base xs u H) : pm_Xs pre base xs U H := by
  have hA : u.vm.Alike U.vm := by rw [hv]; exact Vm.Alike.refl _
  obtain ⟨h1, h2, h3, h4, h5⟩ := h
  exact ⟨va_X.moved hA h1, vk_S.moved hA h2, fun i hi => vk_R.same hv (h3 i hi), va_Z.moved hA h4, va_Zq.moved hA h5⟩
theorem pm_Xs.warm {pre : Nat → Nat} {base : Nat} {xs : List Int32} {s U : State} {H : Heap} {locs : List Loc} (hW : s.WarmedH U.vm) (hb0 : pre 0 < base) (hb1 : base ≤ s.heap.size) (hS : va_S (fun q => base ≤ q) s.heap H locs) (h : pm_Xs pre base xs s s.heap) : pm_Xs pre base xs U H := by
  obtain ⟨h1, h2, h3, h4, h5⟩ := h
  exact ⟨va_X.moved hW.alike (va_X.kept h1 (hS.2.1 _ (Nat.lt_of_lt_of_le hb0 hb1) (Nat.not_le.mpr hb0))), vk_S.moved hW.alike (h2.kept hS.2.1), fun i hi => vk_R.warm hW (h3 i hi), va_Z.moved hW.alike (h4.kept hS.2.1), va_Zq.moved hW.alike (h5.kept hS.2.1)⟩
end
section
/-! FROM THE PURE MACHINE TO THE MACHINE: what a pure state means, and a row for each instruction (printed in part by wip/gen/gen04.py). -/
def pm_ad (pre : Nat → Nat) (base : Nat) (i : Nat) : Nat := if i < 8 then pre i else base + (i - 8)
def pm_rv (pre : Nat → Nat) (base : Nat) : Value → Value
  | .ref i => .ref (pm_ad pre base i)
  | v => v
theorem pm_cat (pre : Nat → Nat) (base : Nat) (v : Value) : (pm_rv pre base v).category = v.category := by cases v <;> rfl
theorem pm_cats (pre : Nat → Nat) (base : Nat) (l : List Value) : ((l.map (pm_rv pre base)).map fun v => v.category).sum = (l.map Value.category).sum := by
  rw [List.map_map]
  congr 1
  exact List.map_congr_left (fun v _ => pm_cat pre base v)
def pm_lv (pre : Nat → Nat) (base : Nat) (q : Nat × Value) : Nat × Value := (q.1, pm_rv pre base q.2)
def pm_e (pre : Nat → Nat) (base : Nat) (aC : Nat → ClassId) : pm_C → va_E
  | .inl (t, l) => .inl (aC t, l.length, .inl (fun j => l.getD j 0))
  | .inr (.inl (t, l)) => .inl (aC t, l.length, .inr (.inl (fun j => l.getD j 0)))
  | .inr (.inr (.inl (t, l))) => .inl (aC t, l.length, .inr (.inr (.inr (.inr (fun j => (l.getD j none).map (pm_ad pre base))))))
  | .inr (.inr (.inr (ci, fs))) => .inr (ci, fs.map (pm_rv pre base))
def pm_P (dC : Nat → ClassId) (dI : Nat → Nat → Nat) (aC : Nat → ClassId) (pre : Nat → Nat) (base : Nat) (h : pm_H) (H : Heap) : Prop := ∀ (i : Nat) (c : pm_C), h[i]? = some c → va_at (dC, dI) kC (base + i, pm_e pre base aC c) H
def pm_ty (aC : Nat → ClassId) : List (ClassId × FieldType) := [(aC 0, .int), (aC 1, .byte), (aC 2, .boolean), (aC 3, .long), (aC 4, .object "MoodTown$Town"), (aC 5, .object "MoodTown$Sheet")]
theorem pm_P.one {dC : Nat → ClassId} {dI : Nat → Nat → Nat} {aC : Nat → ClassId} {pre : Nat → Nat} {base : Nat} {h : pm_H} {H : Heap} (hP : pm_P dC dI aC pre base h H) {i : Nat} {c : pm_C} (hc : h[i]? = some c) : va_P (dC, dI) kC [(base + i, pm_e pre base aC c)] H := by
  intro k q hk
  cases k with
  | zero => cases hk; exact hP i c hc
  | succ k => simp at hk
theorem pm_P.set {dC : Nat → ClassId} {dI : Nat → Nat → Nat} {aC : Nat → ClassId} {pre : Nat → Nat} {base : Nat} {h : pm_H} {H H1 : Heap} (hP : pm_P dC dI aC pre base h H) {i : Nat} {c0 c : pm_C} (hc : h[i]? = some c0) (he : va_at (dC, dI) kC (base + i, pm_e pre base aC c) H1) (oq : ∀ q : Nat, q ≠ base + i → H1[q]? = H[q]?) : pm_P dC dI aC pre base (h.set i c) H1 := by
  have hl := (List.getElem?_eq_some_iff.mp hc).1
  intro j d hj
  by_cases hji : j = i
  · subst hji
    rw [List.getElem?_set_self hl] at hj
    cases hj
    exact he
  · rw [List.getElem?_set_ne (Ne.symm hji)] at hj
    exact (hP j d hj).kept (oq _ (by show base + j ≠ base + i; omega))
theorem pm_P.push {dC : Nat → ClassId} {dI : Nat → Nat → Nat} {aC : Nat → ClassId} {pre : Nat → Nat} {base : Nat} {h : pm_H} {H H1 : Heap} (hP : pm_P dC dI aC pre base h H) (hz : H.size = base + h.length) {c : pm_C} (he : va_at (dC, dI) kC (H.size, pm_e pre base aC c) H1) (oq : ∀ q : Nat, q < H.size → H1[q]? = H[q]?) : pm_P dC dI aC pre base (h ++ [c]) H1 := by
  intro j d hj
  by_cases hl : j < h.length
  · rw [List.getElem?_append_left hl] at hj
    exact (hP j d hj).kept (oq _ (by show base + j < H.size; omega))
  · rw [List.getElem?_append_right (by omega)] at hj
    have hz1 : j - h.length < 1 := (List.getElem?_eq_some_iff.mp hj).1
    rw [show j - h.length = 0 by omega] at hj
    cases hj
    rw [show base + j = H.size by omega]
    exact he
theorem pm_cell_eq {h : pm_H} {a : Nat} {c : pm_C} (pre : Nat → Nat) (base : Nat) (hc : pm_cell h a = some c) : h[a - 8]? = some c ∧ pm_ad pre base a = base + (a - 8) := by
  unfold pm_cell at hc
  by_cases ha : a < 8
  · rw [if_pos ha] at hc; cases hc
  · rw [if_neg ha] at hc
    exact ⟨hc, by unfold pm_ad; rw [if_neg ha]⟩
theorem pm_ad_new (pre : Nat → Nat) (base n : Nat) : pm_ad pre base (8 + n) = base + n := by
  unfold pm_ad
  rw [if_neg (by omega)]
  omega
theorem pm_look {lv : pm_L} {i : Nat} {v : Value} (h : lv.lookup i = some v) : ∃ k : Nat, lv[k]? = some (i, v) := by
  induction lv with
  | nil => cases h
  | cons q r ih =>
    obtain ⟨j, w⟩ := q
    rw [List.lookup_cons] at h
    by_cases hj : i = j
    · subst hj
      rw [beq_self_eq_true] at h
      cases h
      exact ⟨0, rfl⟩
    · rw [beq_eq_false_iff_ne.mpr hj] at h
      obtain ⟨k, hk⟩ := ih h
      exact ⟨k + 1, hk⟩
theorem pm_lvat {ls : Array Slot} {nL : Nat} {lv : pm_L} {pre : Nat → Nat} {base i : Nat} {v : Value} (hl : lv_has ls nL (lv.map (pm_lv pre base))) (h : lv.lookup i = some v) : ls[i]? = some (.val (pm_rv pre base v)) := by
  obtain ⟨k, hk⟩ := pm_look h
  exact lv_at hl k (by rw [List.getElem?_map, hk]; rfl)
theorem pm_plc_mem {α : Type} {i : Nat} {v : α} {q : Nat × α} : ∀ {l : List (Nat × α)}, q ∈ pm_plc i v l → q = (i, v) ∨ q ∈ l
  | [], h => by
    rcases List.mem_singleton.mp h with rfl
    exact Or.inl rfl
  | p :: r, h => by
    unfold pm_plc at h
    split at h
    · rcases List.mem_cons.mp h with rfl | h
      · exact Or.inr List.mem_cons_self
      · rcases pm_plc_mem h with e | h
        · exact Or.inl e
        · exact Or.inr (List.mem_cons_of_mem _ h)
    · rcases List.mem_cons.mp h with rfl | h
      · exact Or.inl rfl
      · exact Or.inr h
theorem pm_s1_has {ls : Array Slot} {nL : Nat} {pre : Nat → Nat} {base : Nat} {lv : pm_L} {i : Nat} {v : Value} (h : lv_has ls nL ((i, pm_rv pre base v) :: (lv.map (pm_lv pre base)).filter (fun q => !(q.1 == i) && !(q.1 + 1 == i && q.2.category == 2)))) : lv_has ls nL ((pm_s1 lv i v).map (pm_lv pre base)) := by
  refine ⟨h.1, h.2.1, fun q hq => h.2.2 q ?_⟩
  obtain ⟨p, hp, rfl⟩ := List.mem_map.mp hq
  rcases pm_plc_mem hp with rfl | hp
  · exact List.mem_cons_self
  · obtain ⟨h1, h2⟩ := List.mem_filter.mp hp
    refine List.mem_cons_of_mem _ (List.mem_filter.mpr ⟨List.mem_map.mpr ⟨p, h1, rfl⟩, ?_⟩)
    show (!(p.1 == i) && !(p.1 + 1 == i && (pm_rv pre base p.2).category == 2)) = true
    rw [pm_cat]
    exact h2
theorem pm_s2_has {ls : Array Slot} {nL : Nat} {pre : Nat → Nat} {base : Nat} {lv : pm_L} {i : Nat} {v : Value} (h : lv_has ls nL ((i, pm_rv pre base v) :: (lv.map (pm_lv pre base)).filter (fun q => !(q.1 == i) && (!(q.1 == i + 1) && !(q.1 + 1 == i && q.2.category == 2))))) : lv_has ls nL ((pm_s2 lv i v).map (pm_lv pre base)) := by
  refine ⟨h.1, h.2.1, fun q hq => h.2.2 q ?_⟩
  obtain ⟨p, hp, rfl⟩ := List.mem_map.mp hq
  rcases pm_plc_mem hp with rfl | hp
  · exact List.mem_cons_self
  · obtain ⟨h1, h2⟩ := List.mem_filter.mp hp
    refine List.mem_cons_of_mem _ (List.mem_filter.mpr ⟨List.mem_map.mpr ⟨p, h1, rfl⟩, ?_⟩)
    show (!(p.1 == i) && (!(p.1 == i + 1) && !(p.1 + 1 == i && (pm_rv pre base p.2).category == 2))) = true
    rw [pm_cat]
    exact h2
theorem pm_fit_ok {pre : Nat → Nat} {base : Nat} {ty : FieldType} {v : Value} (h : pm_fit ty v = true) : narrow ty (pm_rv pre base v) = pm_rv pre base v ∧ fits ty (pm_rv pre base v) = true := by
  unfold pm_fit at h
  split at h
  · exact ⟨rfl, rfl⟩
  · exact ⟨rfl, rfl⟩
  · rename_i v
    rw [Bool.or_eq_true, beq_iff_eq, beq_iff_eq] at h
    rcases h with rfl | rfl
    · exact ⟨show narrow .boolean (.int 0) = .int 0 by decide, show fits .boolean (.int 0) = true by decide⟩
    · exact ⟨show narrow .boolean (.int 1) = .int 1 by decide, show fits .boolean (.int 1) = true by decide⟩
  · exact ⟨rfl, rfl⟩
  · exact ⟨rfl, rfl⟩
  · cases h
def pm_nest : List (String × Nat × MethodName) := [("MoodTown$Walk", 111, ⟨"MoodTown", "flipOf", "(I)I"⟩), ("MoodTown$Search", 62, ⟨"MoodTown", "rowsOf", "(I)I"⟩), ("MoodTown$Town", 106, ⟨"MoodTown", "digitOf", "(III)I"⟩), ("MoodTown$Search", 108, ⟨"MoodTown", "digitOf", "(III)I"⟩), ("MoodTown$Search", 135, ⟨"MoodTown", "flipOf", "(I)I"⟩)]
def pm_N (U : State) : Prop := va_AO "MoodTown$Town" U ∧ va_AO "MoodTown$Sheet" U ∧ ∀ q ∈ pm_nest, va_Nw (.methodLinkNest q.1 q.2.1 q.2.2 "MoodTown") U
def pm_X (p : Program) (R : Room) (s : State) (m : MethodId) (args : Array Value) (meth : Method) (c0 : Code) (dC : Nat → ClassId) (dI : Nat → Nat → Nat) (aC : Nat → ClassId) (pre : Nat → Nat) (base : Nat) (xs : List Int32) (mm : pm_M) : Prop :=
  p.tables.exec = Jvm.exec ∧ c0.code = pm_b mm ∧ c0.maxLocals = pm_ml mm ∧ s.vm.findClass (kN (pm_o mm)) = some m.cls ∧ (∀ w ∈ lw_gt, w.before args s = true) ∧ ((pm_y mm).name = "<init>" → meth.name = "<init>") ∧ va_K (dC, dI) kC (pm_ty aC) s ∧ pm_Xs pre base xs s s.heap ∧ pre 0 < base ∧ base ≤ s.heap.size ∧ pm_N s ∧ R = pm_rm mm
/-- the machine comes from this pure state to an end with Q -/
def pm_W (p : Program) (l : Launch) (e : Env) (R : Room) (s : State) (m : MethodId) (args : Array Value) (below : List Frame) (meth : Method) (c0 : Code) (Q : State → Prop) (dC : Nat → ClassId) (dI : Nat → Nat → Nat) (aC : Nat → ClassId) (pre : Nat → Nat) (base : Nat) (mm : pm_M) (pc : Nat) (lv : pm_L) (st : List Value) (h : pm_H) (c sl : Nat) : Prop :=
  ∀ (H : Heap) (locs : List Loc) (ls : Array Slot), c ≤ pm_c mm → sl ≤ pm_s mm → lv_has ls (pm_ml mm) (lv.map (pm_lv pre base)) → pm_P dC dI aC pre base h H → H.size = base + h.length → va_S (fun q => base ≤ q) s.heap H locs → W p l e R s m args below meth c0 H locs c sl Q (F0 m pc ls (st.map (pm_rv pre base)))
def pm_IH (p : Program) (l : Launch) (e : Env) (R : Room) (s : State) (m : MethodId) (args : Array Value) (below : List Frame) (meth : Method) (c0 : Code) (Q : State → Prop) (dC : Nat → ClassId) (dI : Nat → Nat → Nat) (aC : Nat → ClassId) (pre : Nat → Nat) (base : Nat) (mm : pm_M) (k : pm_K) (r : Option Value × pm_H) : Prop :=
  ∀ (pc : Nat) (lv : pm_L) (st : List Value) (h : pm_H) (c sl : Nat), k pc lv st h c sl = some r → pm_W p l e R s m args below meth c0 Q dC dI aC pre base mm pc lv st h c sl
section Rows
variable {p : Program} {l : Launch} {e : Env} {R : Room} {s : State} {m : MethodId} {args : Array Value} {below : List Frame} {meth : Method} {c0 : Code} {Q : State → Prop} {dC : Nat → ClassId} {dI : Nat → Nat → Nat} {aC : Nat → ClassId} {pre : Nat → Nat} {base : Nat} {xs : List Int32} {mm : pm_M} {k : pm_K} {r : Option Value × pm_H} {pc : Nat} {lv : pm_L} {st : List Value} {h : pm_H} {c sl : Nat}
theorem ps_iconst (X : pm_X p R s m args meth c0 dC dI aC pre base xs mm) {n : Int} (hd : decode (pm_b mm) pc = .ok (.iconst n, 1)) (ih : pm_IH p l e R s m args below meth c0 Q dC dI aC pre base mm k r) (hk : k (pc + 1) lv (.int (Int32.ofInt n) :: st) h c sl = some r) : pm_W p l e R s m args below meth c0 Q dC dI aC pre base mm pc lv st h c sl := by
  intro H locs ls hc hs hl hP hz hS
  exact lv_iconst X.1 X.2.1 hd rfl (ih _ _ _ _ _ _ hk H locs ls hc hs hl hP hz hS)
theorem ps_bipush (X : pm_X p R s m args meth c0 dC dI aC pre base xs mm) {n : Int} (hd : decode (pm_b mm) pc = .ok (.bipush n, 2)) (ih : pm_IH p l e R s m args below meth c0 Q dC dI aC pre base mm k r) (hk : k (pc + 2) lv (.int (Int8.ofInt n).toInt32 :: st) h c sl = some r) : pm_W p l e R s m args below meth c0 Q dC dI aC pre base mm pc lv st h c sl := by
  intro H locs ls hc hs hl hP hz hS
  exact lv_bipush X.1 X.2.1 hd rfl (ih _ _ _ _ _ _ hk H locs ls hc hs hl hP hz hS)
theorem ps_sipush (X : pm_X p R s m args meth c0 dC dI aC pre base xs mm) {n : Int} (hd : decode (pm_b mm) pc = .ok (.sipush n, 3)) (ih : pm_IH p l e R s m args below meth c0 Q dC dI aC pre base mm k r) (hk : k (pc + 3) lv (.int (Int16.ofInt n).toInt32 :: st) h c sl = some r) : pm_W p l e R s m args below meth c0 Q dC dI aC pre base mm pc lv st h c sl := by
  intro H locs ls hc hs hl hP hz hS
  exact lv_sipush X.1 X.2.1 hd rfl (ih _ _ _ _ _ _ hk H locs ls hc hs hl hP hz hS)
theorem ps_lconst (X : pm_X p R s m args meth c0 dC dI aC pre base xs mm) {n : Fin 2} (hd : decode (pm_b mm) pc = .ok (.lconst n, 1)) (ih : pm_IH p l e R s m args below meth c0 Q dC dI aC pre base mm k r) (hk : k (pc + 1) lv (.long (Int64.ofNat n) :: st) h c sl = some r) : pm_W p l e R s m args below meth c0 Q dC dI aC pre base mm pc lv st h c sl := by
  intro H locs ls hc hs hl hP hz hS
  exact lv_lconst X.1 X.2.1 hd rfl (ih _ _ _ _ _ _ hk H locs ls hc hs hl hP hz hS)
theorem ps_ldc (X : pm_X p R s m args meth c0 dC dI aC pre base xs mm) {ix : Nat} {v : Int32} (hw : Cond.constant (kN (pm_o mm)) ix v ∈ lw_gt) (hd : decode (pm_b mm) pc = .ok (.ldc ix, 2)) (ih : pm_IH p l e R s m args below meth c0 Q dC dI aC pre base mm k r) (hk : k (pc + 2) lv (.int v :: st) h c sl = some r) : pm_W p l e R s m args below meth c0 Q dC dI aC pre base mm pc lv st h c sl := by
  intro H locs ls hc hs hl hP hz hS
  exact lv_ldc X.1 X.2.1 X.2.2.2.1 (X.2.2.2.2.1 _ hw) hd (ih _ _ _ _ _ _ hk H locs ls hc hs hl hP hz hS)
theorem ps_ldc_w (X : pm_X p R s m args meth c0 dC dI aC pre base xs mm) {ix : Nat} {v : Int32} (hw : Cond.constant (kN (pm_o mm)) ix v ∈ lw_gt) (hd : decode (pm_b mm) pc = .ok (.ldc_w ix, 3)) (ih : pm_IH p l e R s m args below meth c0 Q dC dI aC pre base mm k r) (hk : k (pc + 3) lv (.int v :: st) h c sl = some r) : pm_W p l e R s m args below meth c0 Q dC dI aC pre base mm pc lv st h c sl := by
  intro H locs ls hc hs hl hP hz hS
  exact lv_ldcw X.1 X.2.1 X.2.2.2.1 (X.2.2.2.2.1 _ hw) hd (ih _ _ _ _ _ _ hk H locs ls hc hs hl hP hz hS)
theorem ps_ldc2 (X : pm_X p R s m args meth c0 dC dI aC pre base xs mm) {ix : Nat} {v : Int64} (hw : Cond.constantLong (kN (pm_o mm)) ix v ∈ lw_gt) (hd : decode (pm_b mm) pc = .ok (.ldc2_w ix, 3)) (ih : pm_IH p l e R s m args below meth c0 Q dC dI aC pre base mm k r) (hk : k (pc + 3) lv (.long v :: st) h c sl = some r) : pm_W p l e R s m args below meth c0 Q dC dI aC pre base mm pc lv st h c sl := by
  intro H locs ls hc hs hl hP hz hS
  exact lv_ldc2 X.1 X.2.1 X.2.2.2.1 (X.2.2.2.2.1 _ hw) hd (ih _ _ _ _ _ _ hk H locs ls hc hs hl hP hz hS)
theorem ps_iload_n (X : pm_X p R s m args meth c0 dC dI aC pre base xs mm) {i : Fin 4} (hd : decode (pm_b mm) pc = .ok (.iload_n i, 1)) (ih : pm_IH p l e R s m args below meth c0 Q dC dI aC pre base mm k r) (hk : pm_ldi k i (pc + 1) lv st h c sl = some r) : pm_W p l e R s m args below meth c0 Q dC dI aC pre base mm pc lv st h c sl := by
  unfold pm_ldi at hk
  split at hk
  · rename_i x hx
    intro H locs ls hc hs hl hP hz hS
    exact lv_iload_n X.1 X.2.1 hd rfl (pm_lvat hl hx) (ih _ _ _ _ _ _ hk H locs ls hc hs hl hP hz hS)
  · cases hk
theorem ps_iload (X : pm_X p R s m args meth c0 dC dI aC pre base xs mm) {i : Nat} (hd : decode (pm_b mm) pc = .ok (.iload i, 2)) (ih : pm_IH p l e R s m args below meth c0 Q dC dI aC pre base mm k r) (hk : pm_ldi k i (pc + 2) lv st h c sl = some r) : pm_W p l e R s m args below meth c0 Q dC dI aC pre base mm pc lv st h c sl := by
  unfold pm_ldi at hk
  split at hk
  · rename_i x hx
    intro H locs ls hc hs hl hP hz hS
    exact lv_iload X.1 X.2.1 hd (pm_lvat hl hx) (ih _ _ _ _ _ _ hk H locs ls hc hs hl hP hz hS)
  · cases hk
theorem ps_lload_n (X : pm_X p R s m args meth c0 dC dI aC pre base xs mm) {i : Fin 4} (hd : decode (pm_b mm) pc = .ok (.lload_n i, 1)) (ih : pm_IH p l e R s m args below meth c0 Q dC dI aC pre base mm k r) (hk : pm_ldl k i (pc + 1) lv st h c sl = some r) : pm_W p l e R s m args below meth c0 Q dC dI aC pre base mm pc lv st h c sl := by
  unfold pm_ldl at hk
  split at hk
  · rename_i x hx
    intro H locs ls hc hs hl hP hz hS
    exact lv_lload_n X.1 X.2.1 hd rfl (pm_lvat hl hx) (ih _ _ _ _ _ _ hk H locs ls hc hs hl hP hz hS)
  · cases hk
theorem ps_lload (X : pm_X p R s m args meth c0 dC dI aC pre base xs mm) {i : Nat} (hd : decode (pm_b mm) pc = .ok (.lload i, 2)) (ih : pm_IH p l e R s m args below meth c0 Q dC dI aC pre base mm k r) (hk : pm_ldl k i (pc + 2) lv st h c sl = some r) : pm_W p l e R s m args below meth c0 Q dC dI aC pre base mm pc lv st h c sl := by
  unfold pm_ldl at hk
  split at hk
  · rename_i x hx
    intro H locs ls hc hs hl hP hz hS
    exact lv_lload X.1 X.2.1 hd (pm_lvat hl hx) (ih _ _ _ _ _ _ hk H locs ls hc hs hl hP hz hS)
  · cases hk
theorem ps_aload_n (X : pm_X p R s m args meth c0 dC dI aC pre base xs mm) {i : Fin 4} (hd : decode (pm_b mm) pc = .ok (.aload_n i, 1)) (ih : pm_IH p l e R s m args below meth c0 Q dC dI aC pre base mm k r) (hk : pm_lda k i (pc + 1) lv st h c sl = some r) : pm_W p l e R s m args below meth c0 Q dC dI aC pre base mm pc lv st h c sl := by
  unfold pm_lda at hk
  split at hk
  · rename_i x hx
    intro H locs ls hc hs hl hP hz hS
    exact lv_aload_n X.1 X.2.1 hd rfl (pm_lvat hl hx) (ih _ _ _ _ _ _ hk H locs ls hc hs hl hP hz hS)
  · cases hk
theorem ps_aload (X : pm_X p R s m args meth c0 dC dI aC pre base xs mm) {i : Nat} (hd : decode (pm_b mm) pc = .ok (.aload i, 2)) (ih : pm_IH p l e R s m args below meth c0 Q dC dI aC pre base mm k r) (hk : pm_lda k i (pc + 2) lv st h c sl = some r) : pm_W p l e R s m args below meth c0 Q dC dI aC pre base mm pc lv st h c sl := by
  unfold pm_lda at hk
  split at hk
  · rename_i x hx
    intro H locs ls hc hs hl hP hz hS
    exact lv_aload X.1 X.2.1 hd (pm_lvat hl hx) (ih _ _ _ _ _ _ hk H locs ls hc hs hl hP hz hS)
  · cases hk
theorem ps_istore_n (X : pm_X p R s m args meth c0 dC dI aC pre base xs mm) {i : Fin 4} (hd : decode (pm_b mm) pc = .ok (.istore_n i, 1)) (ih : pm_IH p l e R s m args below meth c0 Q dC dI aC pre base mm k r) (hk : pm_sti k (pm_ml mm) i (pc + 1) lv st h c sl = some r) : pm_W p l e R s m args below meth c0 Q dC dI aC pre base mm pc lv st h c sl := by
  unfold pm_sti at hk
  split at hk
  · rename_i x rr
    split at hk
    · rename_i hi
      intro H locs ls hc hs hl hP hz hS
      exact lv_istore_n X.1 X.2.1 hd rfl hl hi rfl (fun ls hl => ih _ _ _ _ _ _ hk H locs ls hc hs (pm_s1_has hl) hP hz hS)
    · cases hk
  · cases hk
theorem ps_istore (X : pm_X p R s m args meth c0 dC dI aC pre base xs mm) {i : Nat} (hd : decode (pm_b mm) pc = .ok (.istore i, 2)) (ih : pm_IH p l e R s m args below meth c0 Q dC dI aC pre base mm k r) (hk : pm_sti k (pm_ml mm) i (pc + 2) lv st h c sl = some r) : pm_W p l e R s m args below meth c0 Q dC dI aC pre base mm pc lv st h c sl := by
  unfold pm_sti at hk
  split at hk
  · rename_i x rr
    split at hk
    · rename_i hi
      intro H locs ls hc hs hl hP hz hS
      exact lv_istore X.1 X.2.1 hd hl hi rfl (fun ls hl => ih _ _ _ _ _ _ hk H locs ls hc hs (pm_s1_has hl) hP hz hS)
    · cases hk
  · cases hk
theorem ps_lstore_n (X : pm_X p R s m args meth c0 dC dI aC pre base xs mm) {i : Fin 4} (hd : decode (pm_b mm) pc = .ok (.lstore_n i, 1)) (ih : pm_IH p l e R s m args below meth c0 Q dC dI aC pre base mm k r) (hk : pm_stl k (pm_ml mm) i (pc + 1) lv st h c sl = some r) : pm_W p l e R s m args below meth c0 Q dC dI aC pre base mm pc lv st h c sl := by
  unfold pm_stl at hk
  split at hk
  · rename_i x rr
    split at hk
    · rename_i hi
      intro H locs ls hc hs hl hP hz hS
      exact lv_lstore_n X.1 X.2.1 hd rfl hl hi rfl (fun ls hl => ih _ _ _ _ _ _ hk H locs ls hc hs (pm_s2_has hl) hP hz hS)
    · cases hk
  · cases hk
theorem ps_lstore (X : pm_X p R s m args meth c0 dC dI aC pre base xs mm) {i : Nat} (hd : decode (pm_b mm) pc = .ok (.lstore i, 2)) (ih : pm_IH p l e R s m args below meth c0 Q dC dI aC pre base mm k r) (hk : pm_stl k (pm_ml mm) i (pc + 2) lv st h c sl = some r) : pm_W p l e R s m args below meth c0 Q dC dI aC pre base mm pc lv st h c sl := by
  unfold pm_stl at hk
  split at hk
  · rename_i x rr
    split at hk
    · rename_i hi
      intro H locs ls hc hs hl hP hz hS
      exact lv_lstore X.1 X.2.1 hd hl hi rfl (fun ls hl => ih _ _ _ _ _ _ hk H locs ls hc hs (pm_s2_has hl) hP hz hS)
    · cases hk
  · cases hk
theorem ps_astore_n (X : pm_X p R s m args meth c0 dC dI aC pre base xs mm) {i : Fin 4} (hd : decode (pm_b mm) pc = .ok (.astore_n i, 1)) (ih : pm_IH p l e R s m args below meth c0 Q dC dI aC pre base mm k r) (hk : pm_sta k (pm_ml mm) i (pc + 1) lv st h c sl = some r) : pm_W p l e R s m args below meth c0 Q dC dI aC pre base mm pc lv st h c sl := by
  unfold pm_sta at hk
  split at hk
  · rename_i x rr
    split at hk
    · rename_i hi
      intro H locs ls hc hs hl hP hz hS
      exact lv_astore_n X.1 X.2.1 hd rfl hl hi rfl (fun ls hl => ih _ _ _ _ _ _ hk H locs ls hc hs (pm_s1_has hl) hP hz hS)
    · cases hk
  · cases hk
theorem ps_astore (X : pm_X p R s m args meth c0 dC dI aC pre base xs mm) {i : Nat} (hd : decode (pm_b mm) pc = .ok (.astore i, 2)) (ih : pm_IH p l e R s m args below meth c0 Q dC dI aC pre base mm k r) (hk : pm_sta k (pm_ml mm) i (pc + 2) lv st h c sl = some r) : pm_W p l e R s m args below meth c0 Q dC dI aC pre base mm pc lv st h c sl := by
  unfold pm_sta at hk
  split at hk
  · rename_i x rr
    split at hk
    · rename_i hi
      intro H locs ls hc hs hl hP hz hS
      exact lv_astore X.1 X.2.1 hd hl hi rfl (fun ls hl => ih _ _ _ _ _ _ hk H locs ls hc hs (pm_s1_has hl) hP hz hS)
    · cases hk
  · cases hk
theorem ps_iinc (X : pm_X p R s m args meth c0 dC dI aC pre base xs mm) {i : Nat} {n : Int} (hd : decode (pm_b mm) pc = .ok (.iinc i n, 3)) (ih : pm_IH p l e R s m args below meth c0 Q dC dI aC pre base mm k r) (hk : pm_iinc k (pm_ml mm) i n pc lv st h c sl = some r) : pm_W p l e R s m args below meth c0 Q dC dI aC pre base mm pc lv st h c sl := by
  unfold pm_iinc at hk
  split at hk
  · rename_i x hx
    split at hk
    · rename_i hi
      intro H locs ls hc hs hl hP hz hS
      obtain ⟨q, hq⟩ := pm_look hx
      exact lv_iinc X.1 X.2.1 hd hl (k := q) (x := x) (by rw [List.getElem?_map, hq]; rfl) rfl hi rfl (fun ls hl => ih _ _ _ _ _ _ hk H locs ls hc hs (pm_s1_has hl) hP hz hS)
    · cases hk
  · cases hk
theorem ps_iadd (X : pm_X p R s m args meth c0 dC dI aC pre base xs mm)  (hd : decode (pm_b mm) pc = .ok (.iadd, 1)) (ih : pm_IH p l e R s m args below meth c0 Q dC dI aC pre base mm k r) (hk : pm_bi k (fun x y => x + y) pc lv st h c sl = some r) : pm_W p l e R s m args below meth c0 Q dC dI aC pre base mm pc lv st h c sl := by
  unfold pm_bi at hk
  split at hk
  · intro H locs ls hc hs hl hP hz hS
    exact lv_iadd X.1 X.2.1 hd (ih _ _ _ _ _ _ hk H locs ls hc hs hl hP hz hS)
  · cases hk
theorem ps_isub (X : pm_X p R s m args meth c0 dC dI aC pre base xs mm)  (hd : decode (pm_b mm) pc = .ok (.isub, 1)) (ih : pm_IH p l e R s m args below meth c0 Q dC dI aC pre base mm k r) (hk : pm_bi k (fun x y => x - y) pc lv st h c sl = some r) : pm_W p l e R s m args below meth c0 Q dC dI aC pre base mm pc lv st h c sl := by
  unfold pm_bi at hk
  split at hk
  · intro H locs ls hc hs hl hP hz hS
    exact lv_isub X.1 X.2.1 hd (ih _ _ _ _ _ _ hk H locs ls hc hs hl hP hz hS)
  · cases hk
theorem ps_imul (X : pm_X p R s m args meth c0 dC dI aC pre base xs mm)  (hd : decode (pm_b mm) pc = .ok (.imul, 1)) (ih : pm_IH p l e R s m args below meth c0 Q dC dI aC pre base mm k r) (hk : pm_bi k (fun x y => x * y) pc lv st h c sl = some r) : pm_W p l e R s m args below meth c0 Q dC dI aC pre base mm pc lv st h c sl := by
  unfold pm_bi at hk
  split at hk
  · intro H locs ls hc hs hl hP hz hS
    exact lv_imul X.1 X.2.1 hd (ih _ _ _ _ _ _ hk H locs ls hc hs hl hP hz hS)
  · cases hk
theorem ps_iand (X : pm_X p R s m args meth c0 dC dI aC pre base xs mm)  (hd : decode (pm_b mm) pc = .ok (.iand, 1)) (ih : pm_IH p l e R s m args below meth c0 Q dC dI aC pre base mm k r) (hk : pm_bi k (fun x y => x &&& y) pc lv st h c sl = some r) : pm_W p l e R s m args below meth c0 Q dC dI aC pre base mm pc lv st h c sl := by
  unfold pm_bi at hk
  split at hk
  · intro H locs ls hc hs hl hP hz hS
    exact lv_iand X.1 X.2.1 hd (ih _ _ _ _ _ _ hk H locs ls hc hs hl hP hz hS)
  · cases hk
theorem ps_ior (X : pm_X p R s m args meth c0 dC dI aC pre base xs mm)  (hd : decode (pm_b mm) pc = .ok (.ior, 1)) (ih : pm_IH p l e R s m args below meth c0 Q dC dI aC pre base mm k r) (hk : pm_bi k (fun x y => x ||| y) pc lv st h c sl = some r) : pm_W p l e R s m args below meth c0 Q dC dI aC pre base mm pc lv st h c sl := by
  unfold pm_bi at hk
  split at hk
  · intro H locs ls hc hs hl hP hz hS
    exact lv_ior X.1 X.2.1 hd (ih _ _ _ _ _ _ hk H locs ls hc hs hl hP hz hS)
  · cases hk
theorem ps_ixor (X : pm_X p R s m args meth c0 dC dI aC pre base xs mm)  (hd : decode (pm_b mm) pc = .ok (.ixor, 1)) (ih : pm_IH p l e R s m args below meth c0 Q dC dI aC pre base mm k r) (hk : pm_bi k (fun x y => x ^^^ y) pc lv st h c sl = some r) : pm_W p l e R s m args below meth c0 Q dC dI aC pre base mm pc lv st h c sl := by
  unfold pm_bi at hk
  split at hk
  · intro H locs ls hc hs hl hP hz hS
    exact lv_ixor X.1 X.2.1 hd (ih _ _ _ _ _ _ hk H locs ls hc hs hl hP hz hS)
  · cases hk
theorem ps_ishl (X : pm_X p R s m args meth c0 dC dI aC pre base xs mm)  (hd : decode (pm_b mm) pc = .ok (.ishl, 1)) (ih : pm_IH p l e R s m args below meth c0 Q dC dI aC pre base mm k r) (hk : pm_bi k (fun x y => x <<< (y &&& 31)) pc lv st h c sl = some r) : pm_W p l e R s m args below meth c0 Q dC dI aC pre base mm pc lv st h c sl := by
  unfold pm_bi at hk
  split at hk
  · intro H locs ls hc hs hl hP hz hS
    exact lv_ishl X.1 X.2.1 hd (ih _ _ _ _ _ _ hk H locs ls hc hs hl hP hz hS)
  · cases hk
theorem ps_ishr (X : pm_X p R s m args meth c0 dC dI aC pre base xs mm)  (hd : decode (pm_b mm) pc = .ok (.ishr, 1)) (ih : pm_IH p l e R s m args below meth c0 Q dC dI aC pre base mm k r) (hk : pm_bi k (fun x y => x >>> (y &&& 31)) pc lv st h c sl = some r) : pm_W p l e R s m args below meth c0 Q dC dI aC pre base mm pc lv st h c sl := by
  unfold pm_bi at hk
  split at hk
  · intro H locs ls hc hs hl hP hz hS
    exact lv_ishr X.1 X.2.1 hd (ih _ _ _ _ _ _ hk H locs ls hc hs hl hP hz hS)
  · cases hk
theorem ps_iushr (X : pm_X p R s m args meth c0 dC dI aC pre base xs mm)  (hd : decode (pm_b mm) pc = .ok (.iushr, 1)) (ih : pm_IH p l e R s m args below meth c0 Q dC dI aC pre base mm k r) (hk : pm_bi k (fun x y => (x.toUInt32 >>> (y.toUInt32 &&& Int32.toUInt32 31)).toInt32) pc lv st h c sl = some r) : pm_W p l e R s m args below meth c0 Q dC dI aC pre base mm pc lv st h c sl := by
  unfold pm_bi at hk
  split at hk
  · intro H locs ls hc hs hl hP hz hS
    exact lv_iushr X.1 X.2.1 hd rfl (ih _ _ _ _ _ _ hk H locs ls hc hs hl hP hz hS)
  · cases hk
theorem ps_idiv (X : pm_X p R s m args meth c0 dC dI aC pre base xs mm)  (hd : decode (pm_b mm) pc = .ok (.idiv, 1)) (ih : pm_IH p l e R s m args below meth c0 Q dC dI aC pre base mm k r) (hk : pm_bz k (fun x y => x / y) pc lv st h c sl = some r) : pm_W p l e R s m args below meth c0 Q dC dI aC pre base mm pc lv st h c sl := by
  unfold pm_bz at hk
  split at hk
  · split at hk
    · cases hk
    · rename_i hne
      intro H locs ls hc hs hl hP hz hS
      exact lv_idiv X.1 X.2.1 hd hne (ih _ _ _ _ _ _ hk H locs ls hc hs hl hP hz hS)
  · cases hk
theorem ps_irem (X : pm_X p R s m args meth c0 dC dI aC pre base xs mm)  (hd : decode (pm_b mm) pc = .ok (.irem, 1)) (ih : pm_IH p l e R s m args below meth c0 Q dC dI aC pre base mm k r) (hk : pm_bz k (fun x y => x - x / y * y) pc lv st h c sl = some r) : pm_W p l e R s m args below meth c0 Q dC dI aC pre base mm pc lv st h c sl := by
  unfold pm_bz at hk
  split at hk
  · split at hk
    · cases hk
    · rename_i hne
      intro H locs ls hc hs hl hP hz hS
      exact lv_irem X.1 X.2.1 hd hne (ih _ _ _ _ _ _ hk H locs ls hc hs hl hP hz hS)
  · cases hk
theorem ps_ladd (X : pm_X p R s m args meth c0 dC dI aC pre base xs mm)  (hd : decode (pm_b mm) pc = .ok (.ladd, 1)) (ih : pm_IH p l e R s m args below meth c0 Q dC dI aC pre base mm k r) (hk : pm_bl k (fun x y => x + y) pc lv st h c sl = some r) : pm_W p l e R s m args below meth c0 Q dC dI aC pre base mm pc lv st h c sl := by
  unfold pm_bl at hk
  split at hk
  · intro H locs ls hc hs hl hP hz hS
    exact lv_ladd X.1 X.2.1 hd (ih _ _ _ _ _ _ hk H locs ls hc hs hl hP hz hS)
  · cases hk
theorem ps_lmul (X : pm_X p R s m args meth c0 dC dI aC pre base xs mm)  (hd : decode (pm_b mm) pc = .ok (.lmul, 1)) (ih : pm_IH p l e R s m args below meth c0 Q dC dI aC pre base mm k r) (hk : pm_bl k (fun x y => x * y) pc lv st h c sl = some r) : pm_W p l e R s m args below meth c0 Q dC dI aC pre base mm pc lv st h c sl := by
  unfold pm_bl at hk
  split at hk
  · intro H locs ls hc hs hl hP hz hS
    exact lv_lmul X.1 X.2.1 hd (ih _ _ _ _ _ _ hk H locs ls hc hs hl hP hz hS)
  · cases hk
theorem ps_ldiv (X : pm_X p R s m args meth c0 dC dI aC pre base xs mm)  (hd : decode (pm_b mm) pc = .ok (.ldiv, 1)) (ih : pm_IH p l e R s m args below meth c0 Q dC dI aC pre base mm k r) (hk : pm_blz k (fun x y => x / y) pc lv st h c sl = some r) : pm_W p l e R s m args below meth c0 Q dC dI aC pre base mm pc lv st h c sl := by
  unfold pm_blz at hk
  split at hk
  · split at hk
    · cases hk
    · rename_i hne
      intro H locs ls hc hs hl hP hz hS
      exact lv_ldiv X.1 X.2.1 hd hne (ih _ _ _ _ _ _ hk H locs ls hc hs hl hP hz hS)
  · cases hk
theorem ps_lrem (X : pm_X p R s m args meth c0 dC dI aC pre base xs mm)  (hd : decode (pm_b mm) pc = .ok (.lrem, 1)) (ih : pm_IH p l e R s m args below meth c0 Q dC dI aC pre base mm k r) (hk : pm_blz k (fun x y => x - x / y * y) pc lv st h c sl = some r) : pm_W p l e R s m args below meth c0 Q dC dI aC pre base mm pc lv st h c sl := by
  unfold pm_blz at hk
  split at hk
  · split at hk
    · cases hk
    · rename_i hne
      intro H locs ls hc hs hl hP hz hS
      exact lv_lrem X.1 X.2.1 hd hne (ih _ _ _ _ _ _ hk H locs ls hc hs hl hP hz hS)
  · cases hk
theorem ps_ineg (X : pm_X p R s m args meth c0 dC dI aC pre base xs mm)  (hd : decode (pm_b mm) pc = .ok (.ineg, 1)) (ih : pm_IH p l e R s m args below meth c0 Q dC dI aC pre base mm k r) (hk : pm_u k (fun x => -x) pc lv st h c sl = some r) : pm_W p l e R s m args below meth c0 Q dC dI aC pre base mm pc lv st h c sl := by
  unfold pm_u at hk
  split at hk
  · intro H locs ls hc hs hl hP hz hS
    exact lv_ineg X.1 X.2.1 hd (ih _ _ _ _ _ _ hk H locs ls hc hs hl hP hz hS)
  · cases hk
theorem ps_i2b (X : pm_X p R s m args meth c0 dC dI aC pre base xs mm)  (hd : decode (pm_b mm) pc = .ok (.i2b, 1)) (ih : pm_IH p l e R s m args below meth c0 Q dC dI aC pre base mm k r) (hk : pm_u k (fun x => x.toInt8.toInt32) pc lv st h c sl = some r) : pm_W p l e R s m args below meth c0 Q dC dI aC pre base mm pc lv st h c sl := by
  unfold pm_u at hk
  split at hk
  · intro H locs ls hc hs hl hP hz hS
    exact lv_i2b X.1 X.2.1 hd rfl (ih _ _ _ _ _ _ hk H locs ls hc hs hl hP hz hS)
  · cases hk
theorem ps_i2s (X : pm_X p R s m args meth c0 dC dI aC pre base xs mm)  (hd : decode (pm_b mm) pc = .ok (.i2s, 1)) (ih : pm_IH p l e R s m args below meth c0 Q dC dI aC pre base mm k r) (hk : pm_u k (fun x => x.toInt16.toInt32) pc lv st h c sl = some r) : pm_W p l e R s m args below meth c0 Q dC dI aC pre base mm pc lv st h c sl := by
  unfold pm_u at hk
  split at hk
  · intro H locs ls hc hs hl hP hz hS
    exact lv_i2s X.1 X.2.1 hd rfl (ih _ _ _ _ _ _ hk H locs ls hc hs hl hP hz hS)
  · cases hk
theorem ps_i2l (X : pm_X p R s m args meth c0 dC dI aC pre base xs mm)  (hd : decode (pm_b mm) pc = .ok (.i2l, 1)) (ih : pm_IH p l e R s m args below meth c0 Q dC dI aC pre base mm k r) (hk : pm_i2l k pc lv st h c sl = some r) : pm_W p l e R s m args below meth c0 Q dC dI aC pre base mm pc lv st h c sl := by
  unfold pm_i2l at hk
  split at hk
  · intro H locs ls hc hs hl hP hz hS
    exact lv_i2l X.1 X.2.1 hd rfl (ih _ _ _ _ _ _ hk H locs ls hc hs hl hP hz hS)
  · cases hk
theorem ps_lcmp (X : pm_X p R s m args meth c0 dC dI aC pre base xs mm)  (hd : decode (pm_b mm) pc = .ok (.lcmp, 1)) (ih : pm_IH p l e R s m args below meth c0 Q dC dI aC pre base mm k r) (hk : pm_lcmp k pc lv st h c sl = some r) : pm_W p l e R s m args below meth c0 Q dC dI aC pre base mm pc lv st h c sl := by
  unfold pm_lcmp at hk
  split at hk
  · intro H locs ls hc hs hl hP hz hS
    exact W.lcmp X.1 X.2.1 hd (ih _ _ _ _ _ _ hk H locs ls hc hs hl hP hz hS)
  · cases hk
theorem ps_dup (X : pm_X p R s m args meth c0 dC dI aC pre base xs mm)  (hd : decode (pm_b mm) pc = .ok (.dup, 1)) (ih : pm_IH p l e R s m args below meth c0 Q dC dI aC pre base mm k r) (hk : pm_dup k pc lv st h c sl = some r) : pm_W p l e R s m args below meth c0 Q dC dI aC pre base mm pc lv st h c sl := by
  unfold pm_dup at hk
  split at hk
  · split at hk
    · rename_i hv
      intro H locs ls hc hs hl hP hz hS
      exact lv_dup X.1 X.2.1 hd (by rw [pm_cat]; exact hv) (ih _ _ _ _ _ _ hk H locs ls hc hs hl hP hz hS)
    · cases hk
  · cases hk
theorem ps_pop (X : pm_X p R s m args meth c0 dC dI aC pre base xs mm)  (hd : decode (pm_b mm) pc = .ok (.pop, 1)) (ih : pm_IH p l e R s m args below meth c0 Q dC dI aC pre base mm k r) (hk : pm_pop k pc lv st h c sl = some r) : pm_W p l e R s m args below meth c0 Q dC dI aC pre base mm pc lv st h c sl := by
  unfold pm_pop at hk
  split at hk
  · rename_i v rr
    split at hk
    · rename_i hv
      intro H locs ls hc hs hl hP hz hS
      exact lv_pop (va := pm_rv pre base v) X.1 X.2.1 hd (by rw [pm_cat]; exact hv) (ih _ _ _ _ _ _ hk H locs ls hc hs hl hP hz hS)
    · cases hk
  · cases hk
theorem ps_pop2 (X : pm_X p R s m args meth c0 dC dI aC pre base xs mm)  (hd : decode (pm_b mm) pc = .ok (.pop2, 1)) (ih : pm_IH p l e R s m args below meth c0 Q dC dI aC pre base mm k r) (hk : pm_pop2 k pc lv st h c sl = some r) : pm_W p l e R s m args below meth c0 Q dC dI aC pre base mm pc lv st h c sl := by
  unfold pm_pop2 at hk
  split at hk
  · rename_i v rr
    split at hk
    · rename_i hv
      intro H locs ls hc hs hl hP hz hS
      exact lv_pop2_2 (va := pm_rv pre base v) X.1 X.2.1 hd (by rw [pm_cat]; exact hv) (ih _ _ _ _ _ _ hk H locs ls hc hs hl hP hz hS)
    · cases hk
  · cases hk
theorem ps_dup2 (X : pm_X p R s m args meth c0 dC dI aC pre base xs mm)  (hd : decode (pm_b mm) pc = .ok (.dup2, 1)) (ih : pm_IH p l e R s m args below meth c0 Q dC dI aC pre base mm k r) (hk : pm_dup2 k pc lv st h c sl = some r) : pm_W p l e R s m args below meth c0 Q dC dI aC pre base mm pc lv st h c sl := by
  unfold pm_dup2 at hk
  split at hk
  · split at hk
    · rename_i hv
      split at hk
      · rename_i hw
        intro H locs ls hc hs hl hP hz hS
        exact lv_dup2_11 X.1 X.2.1 hd (by rw [pm_cat]; exact hv) (by rw [pm_cat]; exact hw) (ih _ _ _ _ _ _ hk H locs ls hc hs hl hP hz hS)
      · cases hk
    · cases hk
  · cases hk
theorem ps_ifCond (X : pm_X p R s m args meth c0 dC dI aC pre base xs mm) {cd : ClassFile.Cond} {off : Int} {tgt : Nat} (ht : (pc : Int) + off = (tgt : Int)) (hd : decode (pm_b mm) pc = .ok (.ifCond cd off, 3)) (ih : pm_IH p l e R s m args below meth c0 Q dC dI aC pre base mm k r) (hk : pm_if k cd tgt pc lv st h c sl = some r) : pm_W p l e R s m args below meth c0 Q dC dI aC pre base mm pc lv st h c sl := by
  unfold pm_if at hk
  split at hk
  · intro H locs ls hc hs hl hP hz hS
    cases cd with
    | eq => exact lv_if_eq X.1 X.2.1 hd ht (fun q => ih _ _ _ _ _ _ ((if_pos q).symm.trans hk) H locs ls hc hs hl hP hz hS) (fun q => ih _ _ _ _ _ _ ((if_neg q).symm.trans hk) H locs ls hc hs hl hP hz hS)
    | ne => exact lv_if_ne X.1 X.2.1 hd ht (fun q => ih _ _ _ _ _ _ ((if_neg q).symm.trans hk) H locs ls hc hs hl hP hz hS) (fun q => ih _ _ _ _ _ _ ((if_pos q).symm.trans hk) H locs ls hc hs hl hP hz hS)
    | lt => exact lv_if_lt X.1 X.2.1 hd ht (fun q => ih _ _ _ _ _ _ ((if_pos q).symm.trans hk) H locs ls hc hs hl hP hz hS) (fun q => ih _ _ _ _ _ _ ((if_neg q).symm.trans hk) H locs ls hc hs hl hP hz hS)
    | ge => exact lv_if_ge X.1 X.2.1 hd ht (fun q => ih _ _ _ _ _ _ ((if_pos q).symm.trans hk) H locs ls hc hs hl hP hz hS) (fun q => ih _ _ _ _ _ _ ((if_neg q).symm.trans hk) H locs ls hc hs hl hP hz hS)
    | gt => exact lv_if_gt X.1 X.2.1 hd ht (fun q => ih _ _ _ _ _ _ ((if_pos q).symm.trans hk) H locs ls hc hs hl hP hz hS) (fun q => ih _ _ _ _ _ _ ((if_neg q).symm.trans hk) H locs ls hc hs hl hP hz hS)
    | le => exact lv_if_le X.1 X.2.1 hd ht (fun q => ih _ _ _ _ _ _ ((if_pos q).symm.trans hk) H locs ls hc hs hl hP hz hS) (fun q => ih _ _ _ _ _ _ ((if_neg q).symm.trans hk) H locs ls hc hs hl hP hz hS)
  · cases hk
theorem ps_if_icmp (X : pm_X p R s m args meth c0 dC dI aC pre base xs mm) {cd : ClassFile.Cond} {off : Int} {tgt : Nat} (ht : (pc : Int) + off = (tgt : Int)) (hd : decode (pm_b mm) pc = .ok (.if_icmp cd off, 3)) (ih : pm_IH p l e R s m args below meth c0 Q dC dI aC pre base mm k r) (hk : pm_ic k cd tgt pc lv st h c sl = some r) : pm_W p l e R s m args below meth c0 Q dC dI aC pre base mm pc lv st h c sl := by
  unfold pm_ic at hk
  split at hk
  · intro H locs ls hc hs hl hP hz hS
    cases cd with
    | eq => exact lv_icmp_eq X.1 X.2.1 hd ht (fun q => ih _ _ _ _ _ _ ((if_pos q).symm.trans hk) H locs ls hc hs hl hP hz hS) (fun q => ih _ _ _ _ _ _ ((if_neg q).symm.trans hk) H locs ls hc hs hl hP hz hS)
    | ne => exact lv_icmp_ne X.1 X.2.1 hd ht (fun q => ih _ _ _ _ _ _ ((if_neg q).symm.trans hk) H locs ls hc hs hl hP hz hS) (fun q => ih _ _ _ _ _ _ ((if_pos q).symm.trans hk) H locs ls hc hs hl hP hz hS)
    | lt => exact lv_icmp_lt X.1 X.2.1 hd ht (fun q => ih _ _ _ _ _ _ ((if_pos q).symm.trans hk) H locs ls hc hs hl hP hz hS) (fun q => ih _ _ _ _ _ _ ((if_neg q).symm.trans hk) H locs ls hc hs hl hP hz hS)
    | ge => exact lv_icmp_ge X.1 X.2.1 hd ht (fun q => ih _ _ _ _ _ _ ((if_pos q).symm.trans hk) H locs ls hc hs hl hP hz hS) (fun q => ih _ _ _ _ _ _ ((if_neg q).symm.trans hk) H locs ls hc hs hl hP hz hS)
    | gt => exact lv_icmp_gt X.1 X.2.1 hd ht (fun q => ih _ _ _ _ _ _ ((if_pos q).symm.trans hk) H locs ls hc hs hl hP hz hS) (fun q => ih _ _ _ _ _ _ ((if_neg q).symm.trans hk) H locs ls hc hs hl hP hz hS)
    | le => exact lv_icmp_le X.1 X.2.1 hd ht (fun q => ih _ _ _ _ _ _ ((if_pos q).symm.trans hk) H locs ls hc hs hl hP hz hS) (fun q => ih _ _ _ _ _ _ ((if_neg q).symm.trans hk) H locs ls hc hs hl hP hz hS)
  · cases hk
theorem ps_goto (X : pm_X p R s m args meth c0 dC dI aC pre base xs mm) {off : Int} {tgt : Nat} (ht : (pc : Int) + off = (tgt : Int)) (hd : decode (pm_b mm) pc = .ok (.goto off, 3)) (ih : pm_IH p l e R s m args below meth c0 Q dC dI aC pre base mm k r) (hk : k tgt lv st h c sl = some r) : pm_W p l e R s m args below meth c0 Q dC dI aC pre base mm pc lv st h c sl := by
  intro H locs ls hc hs hl hP hz hS
  exact lv_goto X.1 X.2.1 hd ht (ih _ _ _ _ _ _ hk H locs ls hc hs hl hP hz hS)
theorem ps_jump {t : Int} (ih : pm_IH p l e R s m args below meth c0 Q dC dI aC pre base mm k r) (hk : pm_jump k t lv st h c sl = some r) : ∃ n : Nat, t = (n : Int) ∧ pm_W p l e R s m args below meth c0 Q dC dI aC pre base mm n lv st h c sl := by
  unfold pm_jump at hk
  split at hk
  · rename_i ht
    exact ⟨t.toNat, (Int.toNat_of_nonneg ht).symm, ih _ _ _ _ _ _ hk⟩
  · cases hk
theorem ps_tsw (X : pm_X p R s m args meth c0 dC dI aC pre base xs mm) {d lo hi : Int} {offs : Array Int} {len : Nat} (hd : decode (pm_b mm) pc = .ok (.tableswitch d lo hi offs, len)) (ih : pm_IH p l e R s m args below meth c0 Q dC dI aC pre base mm k r) (hk : pm_tsw k d lo hi offs pc lv st h c sl = some r) : pm_W p l e R s m args below meth c0 Q dC dI aC pre base mm pc lv st h c sl := by
  unfold pm_tsw at hk
  split at hk
  · split at hk
    · rename_i hlo
      obtain ⟨n, hn, hw⟩ := ps_jump ih hk
      intro H locs ls hc hs hl hP hz hS
      exact lv_tableOut X.1 X.2.1 hd (Or.inl hlo) hn (hw H locs ls hc hs hl hP hz hS)
    · split at hk
      · rename_i hhi
        obtain ⟨n, hn, hw⟩ := ps_jump ih hk
        intro H locs ls hc hs hl hP hz hS
        exact lv_tableOut X.1 X.2.1 hd (Or.inr hhi) hn (hw H locs ls hc hs hl hP hz hS)
      · rename_i hlo hhi
        split at hk
        · rename_i off hoff
          obtain ⟨n, hn, hw⟩ := ps_jump ih hk
          intro H locs ls hc hs hl hP hz hS
          exact lv_tableIn X.1 X.2.1 hd hlo hhi hoff hn (hw H locs ls hc hs hl hP hz hS)
        · cases hk
  · cases hk
end Rows
end
section
/-! FROM THE PURE MACHINE TO THE MACHINE: rows that read and write cells. -/
theorem pm_m1 {pre : Nat → Nat} {base a n : Nat} {rr : List Value} (h : pm_ad pre base a = n) : (Value.ref a :: rr).map (pm_rv pre base) = .ref n :: rr.map (pm_rv pre base) := by rw [← h]; rfl
theorem pm_m2 {pre : Nat → Nat} {base a n : Nat} {v : Value} {rr : List Value} (h : pm_ad pre base a = n) : (v :: Value.ref a :: rr).map (pm_rv pre base) = pm_rv pre base v :: .ref n :: rr.map (pm_rv pre base) := by rw [← h]; rfl
theorem pm_m3 {pre : Nat → Nat} {base a n : Nat} {v w : Value} {rr : List Value} (h : pm_ad pre base a = n) : (v :: w :: Value.ref a :: rr).map (pm_rv pre base) = pm_rv pre base v :: pm_rv pre base w :: .ref n :: rr.map (pm_rv pre base) := by rw [← h]; rfl
theorem pm_getD_set {α : Type} (l : List α) (n : Nat) (x d : α) (hn : n < l.length) (q : Nat) : (l.set n x).getD q d = if q = n then x else l.getD q d := by
  rw [List.getD_eq_getElem?_getD, List.getD_eq_getElem?_getD]
  by_cases hq : q = n
  · subst hq
    rw [List.getElem?_set_self hn, if_pos rfl]
    rfl
  · rw [List.getElem?_set_ne (Ne.symm hq), if_neg hq]
theorem pm_getD_rep {α : Type} (n : Nat) (x : α) (q : Nat) : (List.replicate n x).getD q x = x := by
  rw [List.getD_eq_getElem?_getD, List.getElem?_replicate]
  split <;> rfl
theorem pm_getD_of {α : Type} {l : List α} {n : Nat} {x : α} (d : α) (h : l[n]? = some x) : l.getD n d = x := by
  rw [List.getD_eq_getElem?_getD, h]; rfl
theorem pm_in {α : Type} {l : List α} {i : Int32} {x : α} (hi : ¬ i < 0) (h : l[i.toNatClampNeg]? = some x) : vp_in i l.length := by
  have h1 := (List.getElem?_eq_some_iff.mp h).1
  intro q
  rcases q with q | q
  · exact hi q
  · omega
theorem pm_inl {n : Nat} {i : Int32} (hi : ¬ i < 0) (h : i.toNatClampNeg < n) : vp_in i n := by
  intro q
  rcases q with q | q
  · exact hi q
  · omega
theorem kZrv (pre : Nat → Nat) (base ci : Nat) : (kZ ci).map (pm_rv pre base) = kZ ci := by
  unfold kZ
  split <;> rfl
section Cells
variable {p : Program} {l : Launch} {e : Env} {R : Room} {s : State} {m : MethodId} {args : Array Value} {below : List Frame} {meth : Method} {c0 : Code} {Q : State → Prop} {dC : Nat → ClassId} {dI : Nat → Nat → Nat} {aC : Nat → ClassId} {pre : Nat → Nat} {base : Nat} {xs : List Int32} {mm : pm_M} {k : pm_K} {r : Option Value × pm_H} {pc : Nat} {lv : pm_L} {st : List Value} {h : pm_H} {c sl : Nat}
theorem ps_getf (X : pm_X p R s m args meth c0 dC dI aC pre base xs mm) {ix ci f : Nat} (hf : ci < 8 ∧ f < kM ci ∧ Cond.fieldLink (kN (pm_o mm)) ix (kN ci) (kT ci f).2.1 (kT ci f).2.2.1 ∈ lw_gt) (hd : decode (pm_b mm) pc = .ok (.getfield ix, 3)) (ih : pm_IH p l e R s m args below meth c0 Q dC dI aC pre base mm k r) (hk : pm_getf k ci f pc lv st h c sl = some r) : pm_W p l e R s m args below meth c0 Q dC dI aC pre base mm pc lv st h c sl := by
  obtain ⟨hx, hb, hml, hown, hts, hin, hK, hX, hb0, hb1, hN, rfl⟩ := X
  unfold pm_getf at hk
  split at hk
  · rename_i a rr
    split at hk
    · rename_i cj fs hcell
      split at hk
      · rename_i hcj
        subst hcj
        split at hk
        · rename_i v hv
          intro H locs ls hc hs hl hP hz hS
          obtain ⟨h1, h2⟩ := pm_cell_eq pre base hcell
          rw [pm_m1 h2]
          exact va_get (D := (dC, dI)) hx hb hts (kI cj hf.1) hown hK (hP.one h1) 0 (fs := fs.map (pm_rv pre base)) rfl (kCi cj hf.1) f hf.2.1 (hts _ hf.2.2) (fun x hx => by rw [kTown cj hf.1 f hf.2.1] at hx; exact hx) (v := pm_rv pre base v) (by rw [List.getElem?_map, hv]; rfl) hd (ih _ _ _ _ _ _ hk H locs ls hc hs hl hP hz hS)
        · cases hk
      · cases hk
    · cases hk
  · cases hk
theorem ps_putf (X : pm_X p R s m args meth c0 dC dI aC pre base xs mm) {ix ci f : Nat} (hf : ci < 8 ∧ f < kM ci ∧ Cond.fieldLink (kN (pm_o mm)) ix (kN ci) (kT ci f).2.1 (kT ci f).2.2.1 ∈ lw_gt) (hfin : (kT ci f).2.2.2 = false ∨ ((kT ci f).2.2.2 = true ∧ (pm_y mm).name = "<init>" ∧ kN ci = kN (pm_o mm))) (hd : decode (pm_b mm) pc = .ok (.putfield ix, 3)) (ih : pm_IH p l e R s m args below meth c0 Q dC dI aC pre base mm k r) (hk : pm_putf k ci f pc lv st h c sl = some r) : pm_W p l e R s m args below meth c0 Q dC dI aC pre base mm pc lv st h c sl := by
  obtain ⟨hx, hb, hml, hown, hts, hin, hK, hX, hb0, hb1, hN, rfl⟩ := X
  unfold pm_putf at hk
  split at hk
  · rename_i v a rr
    split at hk
    · rename_i cj fs hcell
      split at hk
      · rename_i hcj
        subst hcj
        split at hk
        · rename_i hfl
          split at hk
          · rename_i hfit
            intro H locs ls hc hs hl hP hz hS
            obtain ⟨h1, h2⟩ := pm_cell_eq pre base hcell
            rw [pm_m2 h2]
            have hcc := kCi cj hf.1
            have hap := va_apart (own := kN (pm_o mm)) hts (kI cj hf.1) (kY cj) (kYok cj hf.1) (kNm cj hf.1) hK hcc
            obtain ⟨hn, hft⟩ := pm_fit_ok (pre := pre) (base := base) hfit
            obtain ⟨r', h1', cell, q1, q2, q3, q4⟩ := hP (a - 8) _ h1
            have hr : r' = (kN cj, kT cj, kM cj) := Option.some.inj (h1'.symm.trans hcc)
            subst hr
            obtain ⟨hS', hfc, kC', hkC, hkind⟩ := hK.1 cj _ hcc
            obtain ⟨cf, kf, fi, f', hi, hsl⟩ := hS' f hf.2.1
            have hlay := hts _ (kI cj hf.1 _ (u_in_lay hf.2.1))
            have hst := (u_facts hfc hkC (u_lays hts (kI cj hf.1) hf.2.1) hi).1
            have hsame : ∀ x, s.fieldFound? (kT cj f).1 (kT cj f).2.1 (kT cj f).2.2.1 = some x → s.fieldFound? (kN cj) (kT cj f).2.1 (kT cj f).2.2.1 = some x := fun x hx => by rw [kTown cj hf.1 f hf.2.1] at hx; exact hx
            have go : ∀ (H' : Heap), H'[base + (a - 8)]? = some (cell.setSlot f'.slot (pm_rv pre base v)) → H'.size = H.size → (∀ q, q ≠ base + (a - 8) → H'[q]? = H[q]?) → W p l e (pm_rm mm) s m args below meth c0 H' (locs ++ [⟨base + (a - 8), f'.slot⟩]) c sl Q (F0 m (pc + 3) ls (rr.map (pm_rv pre base))) := by
              intro H' e1 e2 e3
              rw [hsl] at e1 ⊢
              refine ih _ _ _ _ _ _ hk H' _ ls hc hs hl (hP.set h1 ?_ e3) (by rw [e2, hz, List.length_set]) (hS.put e2 e3 (Nat.le_add_right _ _))
              refine ⟨_, hcc, ?_⟩
              show t_OB _ _ _ _ _ (vp_V ((fs.set f v).map (pm_rv pre base)))
              rw [List.map_set]
              exact t_OB.to (V := updV (vp_V (fs.map (pm_rv pre base))) f (pm_rv pre base v)) ⟨_, e1, q2, q3, t_set q4 hap hf.2.1 _⟩ (fun j _ => vp_updV_set (by rw [List.length_map]; exact hfl) _ j)
            rcases hfin with hfin | ⟨hfin, hini, hkn⟩
            · unfold u_lay at hlay
              rw [if_neg (by rw [hfin]; decide)] at hlay
              have h6 := u_store hfc hkC hkind hlay hi (kYok cj hf.1 f hf.2.1) hn hft
              exact W.putK hx hb (f := f') ⟨hown, hts _ hf.2.2, ⟨_, _, _, hsame _ hi⟩, hst⟩ (by rw [q2]; exact h6) q1 q3 (by rw [hsl]; exact k2_hasslot (q4 f hf.2.1)) rfl rfl hd go
            · unfold u_lay at hlay
              rw [if_pos hfin] at hlay
              have hcf : m.cls = cf := by
                obtain ⟨_, _, c', _, _, _, -, -, hf', -, -, -, hown2, -⟩ := Cond.laysFinal_spec hlay
                have e1 : c' = cf := by have := hi.symm.trans hf'; simp at this; exact this.1.symm
                rw [kTown cj hf.1 f hf.2.1, hkn] at hown2
                rw [← e1]; exact Option.some.inj (hown.symm.trans hown2)
              have h6 := u_fits hfc hkC hkind (Or.inr hlay) hi (kYok cj hf.1 f hf.2.1) hn hft
              exact W.putFinK hx hb hown (hts _ hf.2.2) (hsame _ hi) hst hcf (hin hini) (by rw [q2]; exact h6) q1 q3 (by rw [hsl]; exact k2_hasslot (q4 f hf.2.1)) rfl rfl hd go
          · cases hk
        · cases hk
      · cases hk
    · cases hk
  · cases hk
theorem ps_iald (X : pm_X p R s m args meth c0 dC dI aC pre base xs mm)  (hd : decode (pm_b mm) pc = .ok (.iaload, 1)) (ih : pm_IH p l e R s m args below meth c0 Q dC dI aC pre base mm k r) (hk : pm_iald k xs pc lv st h c sl = some r) : pm_W p l e R s m args below meth c0 Q dC dI aC pre base mm pc lv st h c sl := by
  obtain ⟨hx, hb, hml, hown, hts, hin, hK, hX, hb0, hb1, hN, rfl⟩ := X
  unfold pm_iald at hk
  split at hk
  · rename_i i a rr
    split at hk
    · cases hk
    · rename_i hi
      split at hk
      · rename_i ha
        subst ha
        split at hk
        · rename_i x hx1
          intro H locs ls hc hs hl hP hz hS
          have := va_sld hx hb hX.1 (Nat.lt_of_lt_of_le hb0 hb1) (Nat.not_le.mpr hb0) hS (pm_in hi hx1) hd (rest := rr.map (pm_rv pre base)) (Q := Q) (ls := ls) (pc := pc) (l := l) (e := e) (R := pm_rm mm) (below := below) (meth := meth) (c := c0) (cells := c) (slots := sl) (by rw [pm_getD_of 0 hx1]; exact ih _ _ _ _ _ _ hk H locs ls hc hs hl hP hz hS)
          exact this
        · cases hk
      · split at hk
        · rename_i t ll hcell
          split at hk
          · rename_i ht
            subst ht
            split at hk
            · rename_i x hx1
              intro H locs ls hc hs hl hP hz hS
              obtain ⟨h1, h2⟩ := pm_cell_eq pre base hcell
              rw [pm_m2 h2]
              refine va_iald (D := (dC, dI)) hx hb hK (hP.one h1) 0 0 rfl rfl (pm_in hi hx1) hd ?_
              show W _ _ _ _ _ _ _ _ _ _ _ _ _ _ _ (F0 _ _ _ (.int (ll.getD i.toNatClampNeg 0) :: _))
              rw [pm_getD_of 0 hx1]
              exact ih _ _ _ _ _ _ hk H locs ls hc hs hl hP hz hS
            · cases hk
          · cases hk
        · cases hk
  · cases hk
theorem ps_bald (X : pm_X p R s m args meth c0 dC dI aC pre base xs mm)  (hd : decode (pm_b mm) pc = .ok (.baload, 1)) (ih : pm_IH p l e R s m args below meth c0 Q dC dI aC pre base mm k r) (hk : pm_bald k pc lv st h c sl = some r) : pm_W p l e R s m args below meth c0 Q dC dI aC pre base mm pc lv st h c sl := by
  obtain ⟨hx, hb, hml, hown, hts, hin, hK, hX, hb0, hb1, hN, rfl⟩ := X
  unfold pm_bald at hk
  split at hk
  · rename_i i a rr
    split at hk
    · cases hk
    · rename_i hi
      split at hk
      · rename_i t ll hcell
        split at hk
        · rename_i ht
          split at hk
          · rename_i x hx1
            intro H locs ls hc hs hl hP hz hS
            obtain ⟨h1, h2⟩ := pm_cell_eq pre base hcell
            rw [pm_m2 h2]
            rcases ht with rfl | rfl
            · refine va_bald (D := (dC, dI)) hx hb hK (hP.one h1) 0 1 rfl rfl (pm_in hi hx1) hd ?_
              show W _ _ _ _ _ _ _ _ _ _ _ _ _ _ _ (F0 _ _ _ (.int (ll.getD i.toNatClampNeg 0) :: _))
              rw [pm_getD_of 0 hx1]
              exact ih _ _ _ _ _ _ hk H locs ls hc hs hl hP hz hS
            · refine va_zald (D := (dC, dI)) hx hb hK (hP.one h1) 0 2 rfl rfl (pm_in hi hx1) hd ?_
              show W _ _ _ _ _ _ _ _ _ _ _ _ _ _ _ (F0 _ _ _ (.int (ll.getD i.toNatClampNeg 0) :: _))
              rw [pm_getD_of 0 hx1]
              exact ih _ _ _ _ _ _ hk H locs ls hc hs hl hP hz hS
          · cases hk
        · cases hk
      · cases hk
  · cases hk
theorem ps_lald (X : pm_X p R s m args meth c0 dC dI aC pre base xs mm)  (hd : decode (pm_b mm) pc = .ok (.laload, 1)) (ih : pm_IH p l e R s m args below meth c0 Q dC dI aC pre base mm k r) (hk : pm_lald k pc lv st h c sl = some r) : pm_W p l e R s m args below meth c0 Q dC dI aC pre base mm pc lv st h c sl := by
  obtain ⟨hx, hb, hml, hown, hts, hin, hK, hX, hb0, hb1, hN, rfl⟩ := X
  unfold pm_lald at hk
  split at hk
  · rename_i i a rr
    split at hk
    · cases hk
    · rename_i hi
      split at hk
      · rename_i t ll hcell
        split at hk
        · rename_i ht
          subst ht
          split at hk
          · rename_i x hx1
            intro H locs ls hc hs hl hP hz hS
            obtain ⟨h1, h2⟩ := pm_cell_eq pre base hcell
            rw [pm_m2 h2]
            refine va_lald (D := (dC, dI)) hx hb hK (hP.one h1) 0 3 rfl rfl (pm_in hi hx1) hd ?_
            show W _ _ _ _ _ _ _ _ _ _ _ _ _ _ _ (F0 _ _ _ (.long (ll.getD i.toNatClampNeg 0) :: _))
            rw [pm_getD_of 0 hx1]
            exact ih _ _ _ _ _ _ hk H locs ls hc hs hl hP hz hS
          · cases hk
        · cases hk
      · cases hk
  · cases hk
theorem ps_aald (X : pm_X p R s m args meth c0 dC dI aC pre base xs mm)  (hd : decode (pm_b mm) pc = .ok (.aaload, 1)) (ih : pm_IH p l e R s m args below meth c0 Q dC dI aC pre base mm k r) (hk : pm_aald k pc lv st h c sl = some r) : pm_W p l e R s m args below meth c0 Q dC dI aC pre base mm pc lv st h c sl := by
  obtain ⟨hx, hb, hml, hown, hts, hin, hK, hX, hb0, hb1, hN, rfl⟩ := X
  unfold pm_aald at hk
  split at hk
  · rename_i i a rr
    split at hk
    · cases hk
    · rename_i hi
      split at hk
      · rename_i t ll hcell
        split at hk
        · rename_i ht
          split at hk
          · rename_i x hx1
            intro H locs ls hc hs hl hP hz hS
            obtain ⟨h1, h2⟩ := pm_cell_eq pre base hcell
            rw [pm_m2 h2]
            have key : ∀ (C : String) (t0 : Nat), (pm_ty aC)[t0]? = some (aC t, .object C) → W p l e (pm_rm mm) s m args below meth c0 H locs c sl Q (F0 m pc ls (.int i :: .ref (base + (a - 8)) :: rr.map (pm_rv pre base))) := by
              intro C t0 htt
              refine va_aldq (D := (dC, dI)) hx hb hK (hP.one h1) 0 t0 rfl htt (pm_in hi hx1) hd ?_
              show W _ _ _ _ _ _ _ _ _ _ _ _ _ _ _ (F0 _ _ _ (va_rf ((ll.getD i.toNatClampNeg none).map (pm_ad pre base)) :: _))
              rw [pm_getD_of none hx1]
              exact ih _ _ _ _ _ _ hk H locs ls hc hs hl hP hz hS
            rcases ht with rfl | rfl
            · exact key _ 4 rfl
            · exact key _ 5 rfl
          · cases hk
        · cases hk
      · cases hk
  · cases hk
theorem ps_iast (X : pm_X p R s m args meth c0 dC dI aC pre base xs mm)  (hd : decode (pm_b mm) pc = .ok (.iastore, 1)) (ih : pm_IH p l e R s m args below meth c0 Q dC dI aC pre base mm k r) (hk : pm_iast k pc lv st h c sl = some r) : pm_W p l e R s m args below meth c0 Q dC dI aC pre base mm pc lv st h c sl := by
  obtain ⟨hx, hb, hml, hown, hts, hin, hK, hX, hb0, hb1, hN, rfl⟩ := X
  unfold pm_iast at hk
  split at hk
  · rename_i x i a rr
    split at hk
    · cases hk
    · rename_i hi
      split at hk
      · rename_i t ll hcell
        split at hk
        · rename_i ht
          subst ht
          split at hk
          · rename_i hlt
            intro H locs ls hc hs hl hP hz hS
            obtain ⟨h1, h2⟩ := pm_cell_eq pre base hcell
            rw [pm_m3 h2]
            refine W.iast hx hb (hP _ _ h1) ((hK.2 0 _ rfl).1 ll.length (fun j => .int (ll.getD j 0))) (fun q => by cases q) (by show ¬ (i < 0 ∨ (arrV _ _ _).slots.size ≤ _); rw [arrV_size]; exact pm_inl hi hlt) rfl rfl hd fun H1 e1 z oq => ?_
            refine ih _ _ _ _ _ _ hk H1 _ ls hc hs hl (hP.set h1 ?_ oq) (by rw [z, hz, List.length_set]) (hS.put z oq (Nat.le_add_right _ _))
            show H1[base + (a - 8)]? = some (vp_cell (aC 0) ((ll.set _ _).length, .inl (fun j => (ll.set _ _).getD j 0)))
            rw [e1, List.length_set]
            show some ((vp_cell _ _).setSlot _ _) = _
            rw [vp_cell_i, vp_cell_i, arrV_store]
            congr 2
            funext q
            rw [pm_getD_set _ _ _ _ hlt]
            by_cases hq : q = i.toNatClampNeg
            · subst hq
              first | (simp [updV]; done) | (simp [updV]; rfl)
            · simp [updV, hq]
          · cases hk
        · cases hk
      · cases hk
  · cases hk
theorem ps_last (X : pm_X p R s m args meth c0 dC dI aC pre base xs mm)  (hd : decode (pm_b mm) pc = .ok (.lastore, 1)) (ih : pm_IH p l e R s m args below meth c0 Q dC dI aC pre base mm k r) (hk : pm_last k pc lv st h c sl = some r) : pm_W p l e R s m args below meth c0 Q dC dI aC pre base mm pc lv st h c sl := by
  obtain ⟨hx, hb, hml, hown, hts, hin, hK, hX, hb0, hb1, hN, rfl⟩ := X
  unfold pm_last at hk
  split at hk
  · rename_i x i a rr
    split at hk
    · cases hk
    · rename_i hi
      split at hk
      · rename_i t ll hcell
        split at hk
        · rename_i ht
          subst ht
          split at hk
          · rename_i hlt
            intro H locs ls hc hs hl hP hz hS
            obtain ⟨h1, h2⟩ := pm_cell_eq pre base hcell
            rw [pm_m3 h2]
            refine W.last hx hb (hP _ _ h1) ((hK.2 3 _ rfl).1 ll.length (fun j => .long (ll.getD j 0))) (fun q => by cases q) (by show ¬ (i < 0 ∨ (arrV _ _ _).slots.size ≤ _); rw [arrV_size]; exact pm_inl hi hlt) rfl rfl hd fun H1 e1 z oq => ?_
            refine ih _ _ _ _ _ _ hk H1 _ ls hc hs hl (hP.set h1 ?_ oq) (by rw [z, hz, List.length_set]) (hS.put z oq (Nat.le_add_right _ _))
            show H1[base + (a - 8)]? = some (vp_cell (aC 3) ((ll.set _ _).length, .inr (.inl (fun j => (ll.set _ _).getD j 0))))
            rw [e1, List.length_set]
            show some ((vp_cell _ _).setSlot _ _) = _
            rw [vp_cell_l, vp_cell_l, arrV_store]
            congr 2
            funext q
            rw [pm_getD_set _ _ _ _ hlt]
            by_cases hq : q = i.toNatClampNeg
            · subst hq
              first | (simp [updV]; done) | (simp [updV]; rfl)
            · simp [updV, hq]
          · cases hk
        · cases hk
      · cases hk
  · cases hk
theorem ps_bast (X : pm_X p R s m args meth c0 dC dI aC pre base xs mm)  (hd : decode (pm_b mm) pc = .ok (.bastore, 1)) (ih : pm_IH p l e R s m args below meth c0 Q dC dI aC pre base mm k r) (hk : pm_bast k pc lv st h c sl = some r) : pm_W p l e R s m args below meth c0 Q dC dI aC pre base mm pc lv st h c sl := by
  obtain ⟨hx, hb, hml, hown, hts, hin, hK, hX, hb0, hb1, hN, rfl⟩ := X
  unfold pm_bast at hk
  split at hk
  · rename_i x i a rr
    split at hk
    · cases hk
    · rename_i hi
      split at hk
      · rename_i t ll hcell
        split at hk
        · rename_i ht
          subst ht
          split at hk
          · rename_i hlt
            intro H locs ls hc hs hl hP hz hS
            obtain ⟨h1, h2⟩ := pm_cell_eq pre base hcell
            rw [pm_m3 h2]
            refine W.bast hx hb (hP _ _ h1) ((hK.2 1 _ rfl).1 ll.length (fun j => .int (ll.getD j 0))) (fun q => by cases q) (by show ¬ (i < 0 ∨ (arrV _ _ _).slots.size ≤ _); rw [arrV_size]; exact pm_inl hi hlt) rfl rfl hd fun H1 e1 z oq => ?_
            refine ih _ _ _ _ _ _ hk H1 _ ls hc hs hl (hP.set h1 ?_ oq) (by rw [z, hz, List.length_set]) (hS.put z oq (Nat.le_add_right _ _))
            show H1[base + (a - 8)]? = some (vp_cell (aC 1) ((ll.set _ _).length, .inl (fun j => (ll.set _ _).getD j 0)))
            rw [e1, List.length_set]
            show some ((vp_cell _ _).setSlot _ _) = _
            rw [vp_cell_i, vp_cell_i, arrV_store]
            congr 2
            funext q
            rw [pm_getD_set _ _ _ _ hlt]
            by_cases hq : q = i.toNatClampNeg
            · subst hq
              first | (simp [updV]; done) | (simp [updV]; rfl)
            · simp [updV, hq]
          · cases hk
        · split at hk
          · rename_i ht
            subst ht
            split at hk
            · rename_i hlt
              intro H locs ls hc hs hl hP hz hS
              obtain ⟨h1, h2⟩ := pm_cell_eq pre base hcell
              rw [pm_m3 h2]
              refine W.zast hx hb (hP _ _ h1) ((hK.2 2 _ rfl).1 ll.length (fun j => .int (ll.getD j 0))) (fun q => by cases q) (by show ¬ (i < 0 ∨ (arrV _ _ _).slots.size ≤ _); rw [arrV_size]; exact pm_inl hi hlt) rfl rfl hd fun H1 e1 z oq => ?_
              refine ih _ _ _ _ _ _ hk H1 _ ls hc hs hl (hP.set h1 ?_ oq) (by rw [z, hz, List.length_set]) (hS.put z oq (Nat.le_add_right _ _))
              show H1[base + (a - 8)]? = some (vp_cell (aC 2) ((ll.set _ _).length, .inl (fun j => (ll.set _ _).getD j 0)))
              rw [e1, List.length_set]
              show some ((vp_cell _ _).setSlot _ _) = _
              rw [vp_cell_i, vp_cell_i, arrV_store]
              congr 2
              funext q
              rw [pm_getD_set _ _ _ _ hlt]
              by_cases hq : q = i.toNatClampNeg
              · subst hq
                first | (simp [updV]; done) | (simp [updV]; rfl)
              · simp [updV, hq]
            · cases hk
          · cases hk
      · cases hk
  · cases hk
end Cells
end
section
/-! FROM THE PURE MACHINE TO THE MACHINE: new cells, arrays of references, arraycopy. -/
theorem kA_int : Cond.arrayClass .int ∈ lw_gt := lw_gi 215 (by decide +kernel) (by decide +kernel)
theorem kA_byte : Cond.arrayClass .byte ∈ lw_gt := lw_gi 113 (by decide +kernel) (by decide +kernel)
theorem kA_boolean : Cond.arrayClass .boolean ∈ lw_gt := lw_gi 1091 (by decide +kernel) (by decide +kernel)
theorem kA_long : Cond.arrayClass .long ∈ lw_gt := lw_gi 298 (by decide +kernel) (by decide +kernel)
theorem kO_inst : Cond.instanceMethod objectInit ∈ lw_gt := lw_gi 81 (by decide +kernel) (by decide +kernel)
theorem kO_code : Cond.code objectInit ⟨#[0xb1]⟩ 1 none ∈ lw_gt := lw_gi 82 (by decide +kernel) (by decide +kernel)
theorem kY_nat : Cond.native arraycopyName ∈ lw_gt := lw_gi 537 (by decide +kernel) (by decide +kernel)
theorem kY_stat : Cond.static arraycopyName ∈ lw_gt := lw_gi 536 (by decide +kernel) (by decide +kernel)
theorem kY_init : Cond.initialized "java/lang/System" ∈ lw_gt := lw_gi 72 (by decide +kernel) (by decide +kernel)
theorem pm_len_cpy {α : Type} (f g : List α) (sp dp n : Nat) (h1 : sp + n ≤ f.length) (h2 : dp + n ≤ g.length) : (pm_cpy f g sp dp n).length = g.length := by
  unfold pm_cpy
  simp only [List.length_append, List.length_take, List.length_drop]
  omega
theorem pm_getD_cpy {α : Type} (f g : List α) (sp dp n : Nat) (d : α) (h1 : sp + n ≤ f.length) (h2 : dp + n ≤ g.length) (q : Nat) : (pm_cpy f g sp dp n).getD q d = va_cpy (fun j => f.getD j d) (fun j => g.getD j d) sp dp n q := by
  unfold pm_cpy va_cpy
  simp only [List.getD_eq_getElem?_getD]
  congr 1
  have e1 : (g.take dp).length = dp := by rw [List.length_take]; omega
  have e2 : ((f.drop sp).take n).length = n := by rw [List.length_take, List.length_drop]; omega
  by_cases ha : q < dp
  · rw [if_neg (by omega), List.getElem?_append_left (by omega), List.getElem?_take_of_lt ha]
  · by_cases hb : q < dp + n
    · rw [if_pos ⟨by omega, hb⟩, List.getElem?_append_right (by omega), e1, List.getElem?_append_left (by omega), List.getElem?_take_of_lt (by omega), List.getElem?_drop]
    · rw [if_neg (by omega), List.getElem?_append_right (by omega), e1, List.getElem?_append_right (by omega), e2, List.getElem?_drop, show dp + n + (q - dp - n) = q by omega]
section New
variable {p : Program} {l : Launch} {e : Env} {R : Room} {s : State} {m : MethodId} {args : Array Value} {below : List Frame} {meth : Method} {c0 : Code} {Q : State → Prop} {dC : Nat → ClassId} {dI : Nat → Nat → Nat} {aC : Nat → ClassId} {pre : Nat → Nat} {base : Nat} {xs : List Int32} {mm : pm_M} {k : pm_K} {r : Option Value × pm_H} {pc : Nat} {lv : pm_L} {st : List Value} {h : pm_H} {c sl : Nat}
theorem pm_Sp {H H1 : Heap} {locs : List Loc} (hS : va_S (fun q => base ≤ q) s.heap H locs) (z1 : H1.size = H.size + 1) (o1 : ∀ q, q < H.size → H1[q]? = H[q]?) : va_S (fun q => base ≤ q) s.heap H1 locs := ⟨Nat.le_trans hS.1 (by omega), fun x h1 h2 => (o1 x (Nat.lt_of_lt_of_le h1 hS.1)).trans (hS.2.1 x h1 h2), hS.2.2⟩
theorem ps_new (X : pm_X p R s m args meth c0 dC dI aC pre base xs mm) {ix ci : Nat} (hf : ci < 8 ∧ Cond.classLink (kN (pm_o mm)) ix (kN ci) ∈ lw_gt ∧ Cond.instantiable (kN ci) (kM ci) ∈ lw_gt ∧ Cond.initialized (kN ci) ∈ lw_gt) (hd : decode (pm_b mm) pc = .ok (.new ix, 3)) (ih : pm_IH p l e R s m args below meth c0 Q dC dI aC pre base mm k r) (hk : pm_new k mm ci pc lv st h c sl = some r) : pm_W p l e R s m args below meth c0 Q dC dI aC pre base mm pc lv st h c sl := by
  obtain ⟨hx, hb, hml, hown, hts, hin, hK, hX, hb0, hb1, hN, rfl⟩ := X
  unfold pm_new at hk
  split at hk
  · rename_i hc1
    split at hk
    · rename_i hs1
      intro H locs ls hc hs hl hP hz hS
      have hcc := kCi ci hf.1
      have hKn := hK.1 ci _ hcc
      refine W.newcK hx hb hown (hts _ hf.2.1) (hts _ hf.2.2.1) (hts _ hf.2.2.2) rfl hd hc1 hs1 hKn.2.1 rfl fun H1 kC' hkC e1 z1 o1 => ?_
      have g := ih _ _ _ _ _ _ hk H1 locs ls hc1 hs1 hl (hP.push hz ⟨_, hcc, (u_born (kY ci) hts (kI ci hf.1) hKn hkC e1 (kYok ci hf.1)).to (fun j hj => by show _ = vp_V ((kZ ci).map _) j; rw [kZrv]; exact kZok ci hf.1 j hj)⟩ o1) (by rw [z1, hz, List.length_append]; rfl) (pm_Sp hS z1 o1)
      rw [pm_m1 (n := H.size) (by rw [pm_ad_new, hz])] at g
      exact g
    · cases hk
  · cases hk
theorem ps_newa (X : pm_X p R s m args meth c0 dC dI aC pre base xs mm) {at_ : ArrayType} (hd : decode (pm_b mm) pc = .ok (.newarray at_, 2)) (ih : pm_IH p l e R s m args below meth c0 Q dC dI aC pre base mm k r) (hk : pm_newa k mm at_ pc lv st h c sl = some r) : pm_W p l e R s m args below meth c0 Q dC dI aC pre base mm pc lv st h c sl := by
  obtain ⟨hx, hb, hml, hown, hts, hin, hK, hX, hb0, hb1, hN, rfl⟩ := X
  unfold pm_newa at hk
  split at hk
  · rename_i n rr
    split at hk
    · cases hk
    · rename_i hn
      split at hk
      · rename_i hNl
        split at hk
        · rename_i hc1
          split at hk
          · rename_i hs1
            intro H locs ls hc hs hl hP hz hS
            split at hk
            · have hcA := hK.2 0 _ rfl
              refine va_newaK (atype := .int) hx hb (hts _ kA_int) rfl hd rfl hn rfl (by show _ * 4 ≤ _; omega) hc1 hs1 rfl fun H1 cA e1 z1 o1 hAr hNm => ?_
              have ec : cA = aC 0 := Option.some.inj (hNm.symm.trans hcA.2)
              subst ec
              have g := ih _ _ _ _ _ _ hk H1 locs ls hc1 hs1 hl (hP.push hz (by
                show H1[H.size]? = some (vp_cell (aC 0) ((List.replicate n.toNatClampNeg 0).length, .inl (fun j => (List.replicate n.toNatClampNeg 0).getD j 0)))
                rw [e1, vp_cell_i, List.length_replicate]
                congr 2
                funext q
                rw [pm_getD_rep]
                rfl) o1) (by rw [z1, hz, List.length_append]; rfl) (pm_Sp hS z1 o1)
              rw [pm_m1 (n := H.size) (by rw [pm_ad_new, hz])] at g
              exact g
            · have hcA := hK.2 1 _ rfl
              refine va_newaK (atype := .byte) hx hb (hts _ kA_byte) rfl hd rfl hn rfl (by show _ * 1 ≤ _; omega) hc1 hs1 rfl fun H1 cA e1 z1 o1 hAr hNm => ?_
              have ec : cA = aC 1 := Option.some.inj (hNm.symm.trans hcA.2)
              subst ec
              have g := ih _ _ _ _ _ _ hk H1 locs ls hc1 hs1 hl (hP.push hz (by
                show H1[H.size]? = some (vp_cell (aC 1) ((List.replicate n.toNatClampNeg 0).length, .inl (fun j => (List.replicate n.toNatClampNeg 0).getD j 0)))
                rw [e1, vp_cell_i, List.length_replicate]
                congr 2
                funext q
                rw [pm_getD_rep]
                rfl) o1) (by rw [z1, hz, List.length_append]; rfl) (pm_Sp hS z1 o1)
              rw [pm_m1 (n := H.size) (by rw [pm_ad_new, hz])] at g
              exact g
            · have hcA := hK.2 2 _ rfl
              refine va_newaK (atype := .boolean) hx hb (hts _ kA_boolean) rfl hd rfl hn rfl (by show _ * 1 ≤ _; omega) hc1 hs1 rfl fun H1 cA e1 z1 o1 hAr hNm => ?_
              have ec : cA = aC 2 := Option.some.inj (hNm.symm.trans hcA.2)
              subst ec
              have g := ih _ _ _ _ _ _ hk H1 locs ls hc1 hs1 hl (hP.push hz (by
                show H1[H.size]? = some (vp_cell (aC 2) ((List.replicate n.toNatClampNeg 0).length, .inl (fun j => (List.replicate n.toNatClampNeg 0).getD j 0)))
                rw [e1, vp_cell_i, List.length_replicate]
                congr 2
                funext q
                rw [pm_getD_rep]
                rfl) o1) (by rw [z1, hz, List.length_append]; rfl) (pm_Sp hS z1 o1)
              rw [pm_m1 (n := H.size) (by rw [pm_ad_new, hz])] at g
              exact g
            · have hcA := hK.2 3 _ rfl
              refine va_newaK (atype := .long) hx hb (hts _ kA_long) rfl hd rfl hn rfl (by show _ * 8 ≤ _; omega) hc1 hs1 rfl fun H1 cA e1 z1 o1 hAr hNm => ?_
              have ec : cA = aC 3 := Option.some.inj (hNm.symm.trans hcA.2)
              subst ec
              have g := ih _ _ _ _ _ _ hk H1 locs ls hc1 hs1 hl (hP.push hz (by
                show H1[H.size]? = some (vp_cell (aC 3) ((List.replicate n.toNatClampNeg 0).length, .inr (.inl (fun j => (List.replicate n.toNatClampNeg 0).getD j 0))))
                rw [e1, vp_cell_l, List.length_replicate]
                congr 2
                funext q
                rw [pm_getD_rep]
                rfl) o1) (by rw [z1, hz, List.length_append]; rfl) (pm_Sp hS z1 o1)
              rw [pm_m1 (n := H.size) (by rw [pm_ad_new, hz])] at g
              exact g
            · cases hk
          · cases hk
        · cases hk
      · cases hk
  · cases hk
theorem ps_anew (X : pm_X p R s m args meth c0 dC dI aC pre base xs mm) {ix t : Nat} {C : String} (hf : (pm_ty aC)[t]? = some (aC t, .object C) ∧ Cond.classLink (kN (pm_o mm)) ix C ∈ lw_gt ∧ (C = "MoodTown$Town" ∨ C = "MoodTown$Sheet")) (hd : decode (pm_b mm) pc = .ok (.anewarray ix, 3)) (ih : pm_IH p l e R s m args below meth c0 Q dC dI aC pre base mm k r) (hk : pm_anew k mm t pc lv st h c sl = some r) : pm_W p l e R s m args below meth c0 Q dC dI aC pre base mm pc lv st h c sl := by
  obtain ⟨hx, hb, hml, hown, hts, hin, hK, hX, hb0, hb1, hN, rfl⟩ := X
  unfold pm_anew at hk
  split at hk
  · rename_i n rr
    split at hk
    · cases hk
    · rename_i hn
      split at hk
      · rename_i hNl
        split at hk
        · rename_i hc1
          split at hk
          · rename_i hs1
            intro H locs ls hc hs hl hP hz hS
            have hover : va_AO C s := by
              rcases hf.2.2 with rfl | rfl
              · exact hN.1
              · exact hN.2.1
            refine W.anew hx hb hown (hts _ hf.2.1) (va_AO.use hover) rfl hd rfl hn (by omega) hc1 hs1 fun cA kA comp f1 f2 f3 f4 => ?_
            generalize hH1 : H.push ({ cls := cA, slots := Array.replicate n.toNatClampNeg .null, vm := .none } : Cell) = H1
            have z1 : H1.size = H.size + 1 := by rw [← hH1, Array.size_push]
            have e1 : H1[H.size]? = some (arrV cA n.toNatClampNeg (fun _ => .null)) := by rw [← hH1, Array.getElem?_push_size, ← arrV_new]
            have o1 : ∀ q : Nat, q < H.size → H1[q]? = H[q]? := fun q hq => by rw [← hH1, Array.getElem?_push, if_neg (Nat.ne_of_lt hq)]
            obtain ⟨-, kA2, comp2, -, -, -, g4⟩ := hK.2 t _ hf.1
            have ec : cA = aC t := Option.some.inj (f1.symm.trans g4)
            subst ec
            have g := ih _ _ _ _ _ _ hk H1 locs ls hc1 hs1 hl (hP.push hz (by
              show H1[H.size]? = some (vp_cell (aC t) ((List.replicate n.toNatClampNeg none).length, .inr (.inr (.inr (.inr (fun j => ((List.replicate n.toNatClampNeg none).getD j none).map (pm_ad pre base)))))))
              rw [e1, vp_cell_q, List.length_replicate]
              congr 2
              funext q
              rw [pm_getD_rep]
              rfl) o1) (by rw [z1, hz, List.length_append]; rfl) (pm_Sp hS z1 o1)
            rw [pm_m1 (n := H.size) (by rw [pm_ad_new, hz])] at g
            exact g
          · cases hk
        · cases hk
      · cases hk
  · cases hk
theorem ps_aast (X : pm_X p R s m args meth c0 dC dI aC pre base xs mm)  (hd : decode (pm_b mm) pc = .ok (.aastore, 1)) (ih : pm_IH p l e R s m args below meth c0 Q dC dI aC pre base mm k r) (hk : pm_aast k pc lv st h c sl = some r) : pm_W p l e R s m args below meth c0 Q dC dI aC pre base mm pc lv st h c sl := by
  obtain ⟨hx, hb, hml, hown, hts, hin, hK, hX, hb0, hb1, hN, rfl⟩ := X
  unfold pm_aast at hk
  split at hk
  · rename_i v i a rr
    split at hk
    · cases hk
    · rename_i hi
      split at hk
      · rename_i t ll cj fs hcell hcv
        split at hk
        · rename_i ht
          split at hk
          · rename_i hcj
            split at hk
            · rename_i hlt
              intro H locs ls hc hs hl hP hz hS
              obtain ⟨h1, h2⟩ := pm_cell_eq pre base hcell
              obtain ⟨v1, v2⟩ := pm_cell_eq pre base hcv
              rw [pm_m3 h2]
              show W _ _ _ _ _ _ _ _ _ _ _ _ _ _ _ (F0 _ _ _ (.ref (pm_ad pre base v) :: _ :: _ :: _))
              have key : ∀ (C : String), (pm_ty aC)[t]? = some (aC t, .object C) → kC[cj]? = some (kN cj, kT cj, kM cj) → kN cj = C → W p l e (pm_rm mm) s m args below meth c0 H locs c sl Q (F0 m pc ls (.ref (pm_ad pre base v) :: .int i :: .ref (base + (a - 8)) :: rr.map (pm_rv pre base))) := by
                intro C htt hcc hN
                subst hN
                obtain ⟨r', hr', cellV, g1, g2, g3, -⟩ := hP (v - 8) _ v1
                have hcls := (hK.1 cj _ hcc).2
                obtain ⟨kA, comp, k1, k2, k3, -⟩ := (hK.2 t _ htt).2
                have hcomp : comp = dC cj := Option.some.inj (k3.symm.trans hcls.1)
                subst hcomp
                have hcls2 := hcls
                obtain ⟨kC', hkC, -⟩ := hcls2.2
                rw [v2]
                refine W.aast hx hb (hP (a - 8) _ h1) (fun q h => by cases h) (fun h => by cases h) k1 k2 rfl hkC ⟨hi, by show _ < (arrV _ _ _).slots.size; rw [arrV_size]; exact hlt⟩ g1 (fun q h => by rw [g3] at h; cases h) (by rw [g2]; exact hkC) (by rw [g2]; exact va_assign hcls) rfl rfl hd fun H1 e1 z oq => ?_
                refine ih _ _ _ _ _ _ hk H1 _ ls hc hs hl (hP.set h1 ?_ oq) (by rw [z, hz, List.length_set]) (hS.put z oq (Nat.le_add_right _ _))
                show H1[base + (a - 8)]? = some (vp_cell (aC t) ((ll.set _ _).length, .inr (.inr (.inr (.inr (fun j => ((ll.set _ _).getD j none).map (pm_ad pre base)))))))
                rw [e1, List.length_set]
                show some ((vp_cell _ _).setSlot _ _) = _
                rw [vp_cell_q, vp_cell_q, arrV_store]
                congr 2
                funext q
                rw [pm_getD_set _ _ _ _ hlt]
                by_cases hq : q = i.toNatClampNeg
                · subst hq
                  simp [updV, va_rf, v2]
                · simp [updV, hq]
              rcases ht with rfl | rfl
              · subst hcj
                exact key _ rfl rfl rfl
              · subst hcj
                exact key _ rfl rfl rfl
            · cases hk
          · cases hk
        · cases hk
      · cases hk
  · cases hk
theorem ps_alen (X : pm_X p R s m args meth c0 dC dI aC pre base xs mm)  (hd : decode (pm_b mm) pc = .ok (.arraylength, 1)) (ih : pm_IH p l e R s m args below meth c0 Q dC dI aC pre base mm k r) (hk : pm_alen k xs pc lv st h c sl = some r) : pm_W p l e R s m args below meth c0 Q dC dI aC pre base mm pc lv st h c sl := by
  obtain ⟨hx, hb, hml, hown, hts, hin, hK, hX, hb0, hb1, hN, rfl⟩ := X
  unfold pm_alen at hk
  split at hk
  · rename_i a rr
    split at hk
    · rename_i ha
      subst ha
      intro H locs ls hc hs hl hP hz hS
      exact va_slen (A := fun q => base ≤ q) hx hb hX.1 (Nat.lt_of_lt_of_le hb0 hb1) (Nat.not_le.mpr hb0) hS hd (ih _ _ _ _ _ _ hk H locs ls hc hs hl hP hz hS)
    · split at hk
      · rename_i t ll hcell
        split at hk
        · rename_i ht
          intro H locs ls hc hs hl hP hz hS
          obtain ⟨h1, h2⟩ := pm_cell_eq pre base hcell
          rw [pm_m1 h2]
          have key : ∀ (ty : FieldType), (pm_ty aC)[t]? = some (aC t, ty) → W p l e (pm_rm mm) s m args below meth c0 H locs c sl Q (F0 m pc ls (.ref (base + (a - 8)) :: rr.map (pm_rv pre base))) := fun ty htt => va_alen (D := (dC, dI)) hx hb hK (hP.one h1) 0 t rfl htt rfl hd (ih _ _ _ _ _ _ hk H locs ls hc hs hl hP hz hS)
          rcases (by omega : t = 0 ∨ t = 1 ∨ t = 2) with rfl | rfl | rfl
          · exact key _ rfl
          · exact key _ rfl
          · exact key _ rfl
        · cases hk
      · cases hk
  · cases hk
theorem ps_copy (X : pm_X p R s m args meth c0 dC dI aC pre base xs mm) {ix : Nat} (hf : Cond.methodLink (kN (pm_o mm)) ix arraycopyName ∈ lw_gt ∧ 1 ≤ pm_f mm ∧ 18 ≤ pm_w mm) (hd : decode (pm_b mm) pc = .ok (.invokestatic ix, 3)) (ih : pm_IH p l e R s m args below meth c0 Q dC dI aC pre base mm k r) (hk : pm_copy k pc lv st h c sl = some r) : pm_W p l e R s m args below meth c0 Q dC dI aC pre base mm pc lv st h c sl := by
  obtain ⟨hx, hb, hml, hown, hts, hin, hK, hX, hb0, hb1, hN, rfl⟩ := X
  unfold pm_copy at hk
  split at hk
  · rename_i n dp a sp b
    split at hk
    · cases hk
    · rename_i hsp
      split at hk
      · cases hk
      · rename_i hdp
        split at hk
        · cases hk
        · rename_i hn0
          split at hk
          · rename_i t g u f hca hcb
            split at hk
            · rename_i htu
              obtain ⟨rfl, rfl⟩ := htu
              split at hk
              · rename_i h4
                split at hk
                · rename_i h5
                  intro H locs ls hc hs hl hP hz hS
                  obtain ⟨a1, a2⟩ := pm_cell_eq pre base hca
                  obtain ⟨b1, b2⟩ := pm_cell_eq pre base hcb
                  show W _ _ _ _ _ _ _ _ _ _ _ _ _ _ _ (F0 _ _ _ (.int n :: .int dp :: .ref (pm_ad pre base a) :: .int sp :: .ref (pm_ad pre base b) :: []))
                  rw [a2, b2]
                  have nn : ∀ z : Int32, ¬ z < 0 → z.toInt = (z.toNatClampNeg : Int) := by
                    intro z hz
                    have hz0 : (0 : Int) ≤ z.toInt := by
                      have := Int32.not_lt.mp hz
                      simpa using Int32.le_iff_toInt_le.mp this
                    show z.toInt = ((z.toInt.toNat : Nat) : Int)
                    omega
                  intro T hT XT
                  have hc0 : H[base + (b - 8)]? = some (vp_cell (aC 0) (f.length, .inl (fun j => f.getD j 0))) := hP _ _ b1
                  have hc1 : H[base + (a - 8)]? = some (vp_cell (aC 0) (g.length, .inl (fun j => g.getD j 0))) := hP _ _ a1
                  obtain ⟨-, k0, hk0, cm0, hkk0⟩ := (hK.2 0 _ rfl).1 f.length (fun j => .int (f.getD j 0))
                  obtain ⟨-, k1, hk1, cm1, hkk1⟩ := (hK.2 0 _ rfl).1 g.length (fun j => .int (g.getD j 0))
                  obtain ⟨vm', X', step⟩ := XT.arraycopy hx hown (hts _ hf.1) (hts _ kY_nat) (hts _ kY_stat) (hts _ kY_init) (src := base + (b - 8)) (dst := base + (a - 8)) (cs := vp_cell (aC 0) (f.length, .inl (fun j => f.getD j 0))) (cd := vp_cell (aC 0) (g.length, .inl (fun j => g.getD j 0))) (srcPos := sp) (destPos := dp) (n := n) (by rw [hT]; exact hc0) (by rw [hT]; exact hc1)
                    (fun _ h => by cases h) (fun _ h => by cases h) (fun h => by cases h) (fun h => by cases h) hk0 hk1 hkk0 hkk1 (by simp [refKind]) hsp hdp hn0
                    (by rw [nn sp hsp, nn n hn0]; show ¬ _ > ((arrV (aC 0) f.length (fun j => .int (f.getD j 0))).slots.size : Int); rw [arrV_size]; omega)
                    (by rw [nn dp hdp, nn n hn0]; show ¬ _ > ((arrV (aC 0) g.length (fun j => .int (g.getD j 0))).slots.size : Int); rw [arrV_size]; omega)
                    (fun vm₁ _ i hi => by
                      have e : (vp_cell (aC 0) (f.length, .inl (fun j => f.getD j 0))).slots.getD (sp.toNatClampNeg + i) .null = .int (f.getD (sp.toNatClampNeg + i) 0) := by
                        show (arrV (aC 0) f.length (fun j => .int (f.getD j 0))).slots.getD _ _ = _
                        rw [Array.getD_eq_getD_getElem?, arrV_read _ _ (by omega)]
                        rfl
                      refine ⟨?_, ?_⟩
                      · rw [e]; rfl
                      · rw [e]; exact trivial)
                    (g := F0 m pc ls (.int n :: .int dp :: .ref (base + (a - 8)) :: .int sp :: .ref (base + (b - 8)) :: [])) rfl (by rw [hml]; exact hl.1) (rest := []) rfl (by rw [hb]; exact hd) hf.2.1 (by show 2 * 0 + 0 + _ ≤ _; exact hf.2.2)
                  have e1 : copied (vp_cell (aC 0) (f.length, .inl (fun j => f.getD j 0))) (vp_cell (aC 0) (g.length, .inl (fun j => g.getD j 0))) sp dp n = vp_cell (aC 0) ((pm_cpy f g sp.toNatClampNeg dp.toNatClampNeg n.toNatClampNeg).length, .inl (fun j => (pm_cpy f g sp.toNatClampNeg dp.toNatClampNeg n.toNatClampNeg).getD j 0)) := by
                    rw [pm_len_cpy _ _ _ _ _ h4 h5, funext (pm_getD_cpy f g _ _ _ 0 h4 h5)]
                    exact va_copied (fun z => .int z) (aC 0) (aC 0) (fun j => f.getD j 0) (fun j => g.getD j 0) h4
                  rw [e1] at X' step
                  have hl1 : base + (a - 8) < H.size := (Array.getElem?_eq_some_iff.mp hc1).1
                  generalize hcell : vp_cell (aC 0) ((pm_cpy f g sp.toNatClampNeg dp.toNatClampNeg n.toNatClampNeg).length, Sum.inl (fun j => (pm_cpy f g sp.toNatClampNeg dp.toNatClampNeg n.toNatClampNeg).getD j 0)) = nc at X' step
                  have hheap : ((T.setVm vm').setCell (base + (a - 8)) nc).heap = H.setIfInBounds (base + (a - 8)) nc := by rw [← hT]; rfl
                  have oq : ∀ q : Nat, q ≠ base + (a - 8) → (H.setIfInBounds (base + (a - 8)) nc)[q]? = H[q]? := fun q hq => by simp [Array.getElem?_setIfInBounds, Ne.symm hq]
                  obtain ⟨t, w1, w2⟩ := ih _ _ _ _ _ _ hk _ _ ls hc hs hl (hP.set (H1 := H.setIfInBounds (base + (a - 8)) nc) a1 (show (H.setIfInBounds (base + (a - 8)) nc)[base + (a - 8)]? = some (vp_cell _ _) by rw [← hcell]; simp [Array.getElem?_setIfInBounds, hl1]) oq) (by rw [Array.size_setIfInBounds, hz, List.length_set]) ⟨by rw [Array.size_setIfInBounds]; exact hS.1, fun q g1 g2 => by
                      rw [oq q (fun e => g2 (by rw [e]; exact Nat.le_add_right _ _))]
                      exact hS.2.1 q g1 g2, fun q hq => by
                      rcases List.mem_append.mp hq with h | h
                      · exact hS.2.2 q h
                      · obtain ⟨z, -, hz⟩ := List.mem_map.mp h
                        rw [← hz]
                        exact Nat.le_add_right _ _⟩ _ hheap X'
                  exact ⟨t, step t w1, w2⟩
                · cases hk
              · cases hk
            · cases hk
          · cases hk
  · cases hk
theorem ps_obj (X : pm_X p R s m args meth c0 dC dI aC pre base xs mm) {ix : Nat} (hf : Cond.methodLink (kN (pm_o mm)) ix objectInit ∈ lw_gt ∧ 1 ≤ pm_f mm ∧ 20 ≤ pm_w mm) (hd : decode (pm_b mm) pc = .ok (.invokespecial ix, 3)) (ih : pm_IH p l e R s m args below meth c0 Q dC dI aC pre base mm k r) (hk : pm_obj k pc lv st h c sl = some r) : pm_W p l e R s m args below meth c0 Q dC dI aC pre base mm pc lv st h c sl := by
  obtain ⟨hx, hb, hml, hown, hts, hin, hK, hX, hb0, hb1, hN, rfl⟩ := X
  unfold pm_obj at hk
  split at hk
  · rename_i a
    intro H locs ls hc hs hl hP hz hS
    exact W.objInit hx hb hown (hts _ hf.1) (hts _ kO_inst) (hts _ kO_code) rfl (by rw [hml]; exact hl.1) rfl hd hf.2.1 (Nat.le_trans (by show 2 * 0 + 0 + 12 ≤ 20; omega) hf.2.2) (ih _ _ _ _ _ _ hk H locs ls hc hs hl hP hz hS)
  · cases hk
end New
end
