/-! THE METHODS: their heads and links, by the places of the words (printed by wip/gen/gen10.py). -/
def pm_hk (kind : Nat) (m2 : pm_M) : Prop := match kind with
  | 0 => pm_hd m2 (pm_n m2 - 1) ∧ Cond.instanceMethod (pm_y m2) ∈ lw_gt ∧ Cond.selects (pm_y m2).cls (pm_y m2) (pm_y m2) ∈ lw_gt ∧ kN (pm_o m2) = (pm_y m2).cls ∧ pm_o m2 < 8
  | 1 => pm_hd m2 (pm_n m2 - 1) ∧ Cond.instanceMethod (pm_y m2) ∈ lw_gt ∧ (pm_y m2).name = "<init>" ∧ pm_rt m2 = none
  | _ => pm_hd m2 (pm_n m2) ∧ Cond.static (pm_y m2) ∈ lw_gt
set_option maxRecDepth 100000 in
theorem hi_0 : Cond.initialized "MoodTown" ∈ lw_gt := lw_gi 59 (by first | exact rfl | decide +kernel) (by first | exact rfl | decide +kernel)
theorem hc_0 : "MoodTown" ≠ "java/lang/invoke/MethodHandle" := by decide +kernel
theorem hv_0 : "MoodTown" ≠ "java/lang/invoke/VarHandle" := by decide +kernel
theorem hp_0 : (parseMethodDescriptor "()V").map (fun d => d.parameters.length) = some 0 := by decide +kernel
set_option maxRecDepth 100000 in
theorem hi_1 : Cond.initialized "MoodTown$Tape" ∈ lw_gt := lw_gi 60 (by first | exact rfl | decide +kernel) (by first | exact rfl | decide +kernel)
theorem hc_1 : "MoodTown$Tape" ≠ "java/lang/invoke/MethodHandle" := by decide +kernel
theorem hv_1 : "MoodTown$Tape" ≠ "java/lang/invoke/VarHandle" := by decide +kernel
set_option maxRecDepth 100000 in
theorem hi_2 : Cond.initialized "MoodTown$Telling" ∈ lw_gt := lw_gi 61 (by first | exact rfl | decide +kernel) (by first | exact rfl | decide +kernel)
theorem hc_2 : "MoodTown$Telling" ≠ "java/lang/invoke/MethodHandle" := by decide +kernel
theorem hv_2 : "MoodTown$Telling" ≠ "java/lang/invoke/VarHandle" := by decide +kernel
theorem hp_1 : (parseMethodDescriptor "(LMoodTown$Tape;)V").map (fun d => d.parameters.length) = some 1 := by decide +kernel
set_option maxRecDepth 100000 in
theorem hi_3 : Cond.initialized "MoodTown$Town" ∈ lw_gt := lw_gi 62 (by first | exact rfl | decide +kernel) (by first | exact rfl | decide +kernel)
theorem hc_3 : "MoodTown$Town" ≠ "java/lang/invoke/MethodHandle" := by decide +kernel
theorem hv_3 : "MoodTown$Town" ≠ "java/lang/invoke/VarHandle" := by decide +kernel
set_option maxRecDepth 100000 in
theorem hi_4 : Cond.initialized "java/util/Arrays" ∈ lw_gt := lw_gi 63 (by first | exact rfl | decide +kernel) (by first | exact rfl | decide +kernel)
theorem hc_4 : "java/util/Arrays" ≠ "java/lang/invoke/MethodHandle" := by decide +kernel
theorem hv_4 : "java/util/Arrays" ≠ "java/lang/invoke/VarHandle" := by decide +kernel
theorem hp_2 : (parseMethodDescriptor "([II)V").map (fun d => d.parameters.length) = some 2 := by decide +kernel
set_option maxRecDepth 100000 in
theorem hi_5 : Cond.initialized "MoodTown$Walk" ∈ lw_gt := lw_gi 64 (by first | exact rfl | decide +kernel) (by first | exact rfl | decide +kernel)
theorem hc_5 : "MoodTown$Walk" ≠ "java/lang/invoke/MethodHandle" := by decide +kernel
theorem hv_5 : "MoodTown$Walk" ≠ "java/lang/invoke/VarHandle" := by decide +kernel
set_option maxRecDepth 100000 in
theorem hi_6 : Cond.initialized "MoodTown$Search" ∈ lw_gt := lw_gi 65 (by first | exact rfl | decide +kernel) (by first | exact rfl | decide +kernel)
theorem hc_6 : "MoodTown$Search" ≠ "java/lang/invoke/MethodHandle" := by decide +kernel
theorem hv_6 : "MoodTown$Search" ≠ "java/lang/invoke/VarHandle" := by decide +kernel
theorem hp_3 : (parseMethodDescriptor "(LMoodTown$Walk;)V").map (fun d => d.parameters.length) = some 1 := by decide +kernel
set_option maxRecDepth 100000 in
theorem hi_7 : Cond.initialized "MoodTown$Sheet" ∈ lw_gt := lw_gi 66 (by first | exact rfl | decide +kernel) (by first | exact rfl | decide +kernel)
theorem hc_7 : "MoodTown$Sheet" ≠ "java/lang/invoke/MethodHandle" := by decide +kernel
theorem hv_7 : "MoodTown$Sheet" ≠ "java/lang/invoke/VarHandle" := by decide +kernel
theorem hp_4 : (parseMethodDescriptor "(I)I").map (fun d => d.parameters.length) = some 1 := by decide +kernel
theorem hp_5 : (parseMethodDescriptor "(I)Z").map (fun d => d.parameters.length) = some 1 := by decide +kernel
theorem hp_6 : (parseMethodDescriptor "()I").map (fun d => d.parameters.length) = some 0 := by decide +kernel
theorem hp_7 : (parseMethodDescriptor "(II)V").map (fun d => d.parameters.length) = some 2 := by decide +kernel
theorem hp_8 : (parseMethodDescriptor "(Ljava/lang/String;)Z").map (fun d => d.parameters.length) = some 1 := by decide +kernel
theorem hp_9 : (parseMethodDescriptor "(Z)V").map (fun d => d.parameters.length) = some 1 := by decide +kernel
theorem hp_10 : (parseMethodDescriptor "(II)I").map (fun d => d.parameters.length) = some 2 := by decide +kernel
theorem hp_11 : (parseMethodDescriptor "(I)V").map (fun d => d.parameters.length) = some 1 := by decide +kernel
theorem hp_12 : (parseMethodDescriptor "(III)V").map (fun d => d.parameters.length) = some 3 := by decide +kernel
theorem hp_13 : (parseMethodDescriptor "()Z").map (fun d => d.parameters.length) = some 0 := by decide +kernel
theorem hp_14 : (parseMethodDescriptor "(LMoodTown$Town;)V").map (fun d => d.parameters.length) = some 1 := by decide +kernel
theorem hp_15 : (parseMethodDescriptor "(II)Z").map (fun d => d.parameters.length) = some 2 := by decide +kernel
theorem hp_16 : (parseMethodDescriptor "(IZ)I").map (fun d => d.parameters.length) = some 2 := by decide +kernel
theorem hp_17 : (parseMethodDescriptor "(LMoodTown$Town;II)V").map (fun d => d.parameters.length) = some 3 := by decide +kernel
set_option maxRecDepth 100000 in
theorem hi_8 : Cond.initialized "java/lang/Math" ∈ lw_gt := lw_gi 73 (by first | exact rfl | decide +kernel) (by first | exact rfl | decide +kernel)
theorem hc_8 : "java/lang/Math" ≠ "java/lang/invoke/MethodHandle" := by decide +kernel
theorem hv_8 : "java/lang/Math" ≠ "java/lang/invoke/VarHandle" := by decide +kernel
set_option maxRecDepth 100000 in
theorem hi_9 : Cond.initialized "java/lang/Integer" ∈ lw_gt := lw_gi 74 (by first | exact rfl | decide +kernel) (by first | exact rfl | decide +kernel)
theorem hc_9 : "java/lang/Integer" ≠ "java/lang/invoke/MethodHandle" := by decide +kernel
theorem hv_9 : "java/lang/Integer" ≠ "java/lang/invoke/VarHandle" := by decide +kernel
theorem hp_18 : (parseMethodDescriptor "(LMoodTown$Town;)I").map (fun d => d.parameters.length) = some 1 := by decide +kernel
theorem hp_19 : (parseMethodDescriptor "(LMoodTown$Town;I)V").map (fun d => d.parameters.length) = some 2 := by decide +kernel
theorem hp_20 : (parseMethodDescriptor "(III)I").map (fun d => d.parameters.length) = some 3 := by decide +kernel
theorem hp_21 : (parseMethodDescriptor "(LMoodTown$Town;I)LMoodTown$Town;").map (fun d => d.parameters.length) = some 2 := by decide +kernel
theorem hp_22 : (parseMethodDescriptor "()J").map (fun d => d.parameters.length) = some 0 := by decide +kernel
theorem hp_23 : (parseMethodDescriptor "(LMoodTown$Town;I)I").map (fun d => d.parameters.length) = some 2 := by decide +kernel
theorem hp_24 : (parseMethodDescriptor "(LMoodTown$Town;II)Z").map (fun d => d.parameters.length) = some 3 := by decide +kernel
theorem hp_25 : (parseMethodDescriptor "(IIII)I").map (fun d => d.parameters.length) = some 4 := by decide +kernel
theorem hp_26 : (parseMethodDescriptor "(LMoodTown$Town;III)I").map (fun d => d.parameters.length) = some 4 := by decide +kernel
theorem hp_27 : (parseMethodDescriptor "(LMoodTown$Town;III)V").map (fun d => d.parameters.length) = some 4 := by decide +kernel
theorem hp_28 : (parseMethodDescriptor "(LMoodTown$Town;II)I").map (fun d => d.parameters.length) = some 3 := by decide +kernel
theorem hp_29 : (parseMethodDescriptor "(III)J").map (fun d => d.parameters.length) = some 3 := by decide +kernel
theorem hp_30 : (parseMethodDescriptor "(LMoodTown$Town;II)J").map (fun d => d.parameters.length) = some 3 := by decide +kernel
theorem hp_31 : (parseMethodDescriptor "(JJ)J").map (fun d => d.parameters.length) = some 2 := by decide +kernel
theorem hp_32 : (parseMethodDescriptor "(LMoodTown$Town;I)Z").map (fun d => d.parameters.length) = some 2 := by decide +kernel
theorem hp_33 : (parseMethodDescriptor "(LMoodTown$Sheet;I)Z").map (fun d => d.parameters.length) = some 2 := by decide +kernel
set_option maxRecDepth 100000 in
theorem hi_10 : Cond.initialized "MoodTownModel" ∈ lw_gt := lw_gi 67 (by first | exact rfl | decide +kernel) (by first | exact rfl | decide +kernel)
theorem hc_10 : "MoodTownModel" ≠ "java/lang/invoke/MethodHandle" := by decide +kernel
theorem hv_10 : "MoodTownModel" ≠ "java/lang/invoke/VarHandle" := by decide +kernel
theorem hp_34 : (parseMethodDescriptor "(JJJ)Z").map (fun d => d.parameters.length) = some 3 := by decide +kernel
theorem hp_35 : (parseMethodDescriptor "(ZI)V").map (fun d => d.parameters.length) = some 2 := by decide +kernel
theorem hp_36 : (parseMethodDescriptor "(III)Z").map (fun d => d.parameters.length) = some 3 := by decide +kernel
theorem hp_37 : (parseMethodDescriptor "(Z)I").map (fun d => d.parameters.length) = some 1 := by decide +kernel
set_option maxRecDepth 100000 in
theorem hk_1 : pm_hk 1 m_1 := ⟨⟨lw_gi 79 rfl rfl, hi_0, hc_0, hv_0, hp_0⟩, lw_gi 78 (by first | exact rfl | decide +kernel) (by first | exact rfl | decide +kernel), rfl, rfl⟩
set_option maxRecDepth 100000 in
theorem hk_2 : pm_hk 1 m_2 := ⟨⟨lw_gi 87 rfl rfl, hi_1, hc_1, hv_1, hp_0⟩, lw_gi 86 (by first | exact rfl | decide +kernel) (by first | exact rfl | decide +kernel), rfl, rfl⟩
set_option maxRecDepth 100000 in
theorem hk_3 : pm_hk 1 m_3 := ⟨⟨lw_gi 118 rfl rfl, hi_2, hc_2, hv_2, hp_1⟩, lw_gi 117 (by first | exact rfl | decide +kernel) (by first | exact rfl | decide +kernel), rfl, rfl⟩
set_option maxRecDepth 100000 in
theorem hk_4 : pm_hk 1 m_4 := ⟨⟨lw_gi 124 rfl rfl, hi_3, hc_3, hv_3, hp_0⟩, lw_gi 123 (by first | exact rfl | decide +kernel) (by first | exact rfl | decide +kernel), rfl, rfl⟩
set_option maxRecDepth 100000 in
theorem hk_5 : pm_hk 0 m_5 := ⟨⟨lw_gi 129 rfl rfl, hi_3, hc_3, hv_3, hp_0⟩, lw_gi 127 (by first | exact rfl | decide +kernel) (by first | exact rfl | decide +kernel), lw_gi 128 (by first | exact rfl | decide +kernel) (by first | exact rfl | decide +kernel), rfl, by decide⟩
set_option maxRecDepth 100000 in
theorem hk_6 : pm_hk 2 m_6 := ⟨⟨lw_gi 132 rfl rfl, hi_4, hc_4, hv_4, hp_2⟩, lw_gi 131 (by first | exact rfl | decide +kernel) (by first | exact rfl | decide +kernel)⟩
set_option maxRecDepth 100000 in
theorem hk_7 : pm_hk 1 m_7 := ⟨⟨lw_gi 251 rfl rfl, hi_5, hc_5, hv_5, hp_0⟩, lw_gi 250 (by first | exact rfl | decide +kernel) (by first | exact rfl | decide +kernel), rfl, rfl⟩
set_option maxRecDepth 100000 in
theorem hk_8 : pm_hk 1 m_8 := ⟨⟨lw_gi 284 rfl rfl, hi_6, hc_6, hv_6, hp_3⟩, lw_gi 283 (by first | exact rfl | decide +kernel) (by first | exact rfl | decide +kernel), rfl, rfl⟩
set_option maxRecDepth 100000 in
theorem hk_9 : pm_hk 1 m_9 := ⟨⟨lw_gi 305 rfl rfl, hi_7, hc_7, hv_7, hp_0⟩, lw_gi 304 (by first | exact rfl | decide +kernel) (by first | exact rfl | decide +kernel), rfl, rfl⟩
set_option maxRecDepth 100000 in
theorem hk_10 : pm_hk 0 m_10 := ⟨⟨lw_gi 350 rfl rfl, hi_0, hc_0, hv_0, hp_4⟩, lw_gi 348 (by first | exact rfl | decide +kernel) (by first | exact rfl | decide +kernel), lw_gi 349 (by first | exact rfl | decide +kernel) (by first | exact rfl | decide +kernel), rfl, by decide⟩
set_option maxRecDepth 100000 in
theorem hk_11 : pm_hk 0 m_11 := ⟨⟨lw_gi 354 rfl rfl, hi_1, hc_1, hv_1, hp_5⟩, lw_gi 352 (by first | exact rfl | decide +kernel) (by first | exact rfl | decide +kernel), lw_gi 353 (by first | exact rfl | decide +kernel) (by first | exact rfl | decide +kernel), rfl, by decide⟩
set_option maxRecDepth 100000 in
theorem hk_12 : pm_hk 0 m_12 := ⟨⟨lw_gi 358 rfl rfl, hi_0, hc_0, hv_0, hp_4⟩, lw_gi 356 (by first | exact rfl | decide +kernel) (by first | exact rfl | decide +kernel), lw_gi 357 (by first | exact rfl | decide +kernel) (by first | exact rfl | decide +kernel), rfl, by decide⟩
set_option maxRecDepth 100000 in
theorem hk_13 : pm_hk 0 m_13 := ⟨⟨lw_gi 362 rfl rfl, hi_0, hc_0, hv_0, hp_6⟩, lw_gi 360 (by first | exact rfl | decide +kernel) (by first | exact rfl | decide +kernel), lw_gi 361 (by first | exact rfl | decide +kernel) (by first | exact rfl | decide +kernel), rfl, by decide⟩
set_option maxRecDepth 100000 in
theorem hk_14 : pm_hk 0 m_14 := ⟨⟨lw_gi 366 rfl rfl, hi_2, hc_2, hv_2, hp_0⟩, lw_gi 364 (by first | exact rfl | decide +kernel) (by first | exact rfl | decide +kernel), lw_gi 365 (by first | exact rfl | decide +kernel) (by first | exact rfl | decide +kernel), rfl, by decide⟩
set_option maxRecDepth 100000 in
theorem hk_15 : pm_hk 0 m_15 := ⟨⟨lw_gi 371 rfl rfl, hi_1, hc_1, hv_1, hp_0⟩, lw_gi 369 (by first | exact rfl | decide +kernel) (by first | exact rfl | decide +kernel), lw_gi 370 (by first | exact rfl | decide +kernel) (by first | exact rfl | decide +kernel), rfl, by decide⟩
set_option maxRecDepth 100000 in
theorem hk_16 : pm_hk 0 m_16 := ⟨⟨lw_gi 375 rfl rfl, hi_1, hc_1, hv_1, hp_0⟩, lw_gi 373 (by first | exact rfl | decide +kernel) (by first | exact rfl | decide +kernel), lw_gi 374 (by first | exact rfl | decide +kernel) (by first | exact rfl | decide +kernel), rfl, by decide⟩
set_option maxRecDepth 100000 in
theorem hk_17 : pm_hk 2 m_17 := ⟨⟨lw_gi 378 rfl rfl, hi_1, hc_1, hv_1, hp_4⟩, lw_gi 377 (by first | exact rfl | decide +kernel) (by first | exact rfl | decide +kernel)⟩
set_option maxRecDepth 100000 in
theorem hk_18 : pm_hk 0 m_18 := ⟨⟨lw_gi 382 rfl rfl, hi_1, hc_1, hv_1, hp_0⟩, lw_gi 381 (by first | exact rfl | decide +kernel) (by first | exact rfl | decide +kernel), lw_gi 0 (by first | exact rfl | decide +kernel) (by first | exact rfl | decide +kernel), rfl, by decide⟩
set_option maxRecDepth 100000 in
theorem hk_19 : pm_hk 0 m_19 := ⟨⟨lw_gi 386 rfl rfl, hi_2, hc_2, hv_2, hp_0⟩, lw_gi 385 (by first | exact rfl | decide +kernel) (by first | exact rfl | decide +kernel), lw_gi 1 (by first | exact rfl | decide +kernel) (by first | exact rfl | decide +kernel), rfl, by decide⟩
set_option maxRecDepth 100000 in
theorem hk_20 : pm_hk 0 m_20 := ⟨⟨lw_gi 390 rfl rfl, hi_2, hc_2, hv_2, hp_7⟩, lw_gi 389 (by first | exact rfl | decide +kernel) (by first | exact rfl | decide +kernel), lw_gi 2 (by first | exact rfl | decide +kernel) (by first | exact rfl | decide +kernel), rfl, by decide⟩
set_option maxRecDepth 100000 in
theorem hk_21 : pm_hk 0 m_21 := ⟨⟨lw_gi 395 rfl rfl, hi_1, hc_1, hv_1, hp_8⟩, lw_gi 393 (by first | exact rfl | decide +kernel) (by first | exact rfl | decide +kernel), lw_gi 394 (by first | exact rfl | decide +kernel) (by first | exact rfl | decide +kernel), rfl, by decide⟩
set_option maxRecDepth 100000 in
theorem hk_22 : pm_hk 0 m_22 := ⟨⟨lw_gi 447 rfl rfl, hi_2, hc_2, hv_2, hp_0⟩, lw_gi 446 (by first | exact rfl | decide +kernel) (by first | exact rfl | decide +kernel), lw_gi 3 (by first | exact rfl | decide +kernel) (by first | exact rfl | decide +kernel), rfl, by decide⟩
set_option maxRecDepth 100000 in
theorem hk_23 : pm_hk 0 m_23 := ⟨⟨lw_gi 451 rfl rfl, hi_2, hc_2, hv_2, hp_9⟩, lw_gi 450 (by first | exact rfl | decide +kernel) (by first | exact rfl | decide +kernel), lw_gi 4 (by first | exact rfl | decide +kernel) (by first | exact rfl | decide +kernel), rfl, by decide⟩
set_option maxRecDepth 100000 in
theorem hk_24 : pm_hk 0 m_24 := ⟨⟨lw_gi 455 rfl rfl, hi_2, hc_2, hv_2, hp_10⟩, lw_gi 454 (by first | exact rfl | decide +kernel) (by first | exact rfl | decide +kernel), lw_gi 5 (by first | exact rfl | decide +kernel) (by first | exact rfl | decide +kernel), rfl, by decide⟩
set_option maxRecDepth 100000 in
theorem hk_25 : pm_hk 0 m_25 := ⟨⟨lw_gi 459 rfl rfl, hi_2, hc_2, hv_2, hp_5⟩, lw_gi 458 (by first | exact rfl | decide +kernel) (by first | exact rfl | decide +kernel), lw_gi 6 (by first | exact rfl | decide +kernel) (by first | exact rfl | decide +kernel), rfl, by decide⟩
set_option maxRecDepth 100000 in
theorem hk_26 : pm_hk 0 m_26 := ⟨⟨lw_gi 464 rfl rfl, hi_2, hc_2, hv_2, hp_0⟩, lw_gi 463 (by first | exact rfl | decide +kernel) (by first | exact rfl | decide +kernel), lw_gi 7 (by first | exact rfl | decide +kernel) (by first | exact rfl | decide +kernel), rfl, by decide⟩
set_option maxRecDepth 100000 in
theorem hk_27 : pm_hk 0 m_27 := ⟨⟨lw_gi 468 rfl rfl, hi_2, hc_2, hv_2, hp_11⟩, lw_gi 467 (by first | exact rfl | decide +kernel) (by first | exact rfl | decide +kernel), lw_gi 8 (by first | exact rfl | decide +kernel) (by first | exact rfl | decide +kernel), rfl, by decide⟩
set_option maxRecDepth 100000 in
theorem hk_28 : pm_hk 0 m_28 := ⟨⟨lw_gi 472 rfl rfl, hi_3, hc_3, hv_3, hp_5⟩, lw_gi 470 (by first | exact rfl | decide +kernel) (by first | exact rfl | decide +kernel), lw_gi 471 (by first | exact rfl | decide +kernel) (by first | exact rfl | decide +kernel), rfl, by decide⟩
set_option maxRecDepth 100000 in
theorem hk_29 : pm_hk 0 m_29 := ⟨⟨lw_gi 476 rfl rfl, hi_3, hc_3, hv_3, hp_5⟩, lw_gi 474 (by first | exact rfl | decide +kernel) (by first | exact rfl | decide +kernel), lw_gi 475 (by first | exact rfl | decide +kernel) (by first | exact rfl | decide +kernel), rfl, by decide⟩
set_option maxRecDepth 100000 in
theorem hk_30 : pm_hk 0 m_30 := ⟨⟨lw_gi 480 rfl rfl, hi_3, hc_3, hv_3, hp_4⟩, lw_gi 478 (by first | exact rfl | decide +kernel) (by first | exact rfl | decide +kernel), lw_gi 479 (by first | exact rfl | decide +kernel) (by first | exact rfl | decide +kernel), rfl, by decide⟩
set_option maxRecDepth 100000 in
theorem hk_31 : pm_hk 0 m_31 := ⟨⟨lw_gi 485 rfl rfl, hi_2, hc_2, hv_2, hp_11⟩, lw_gi 484 (by first | exact rfl | decide +kernel) (by first | exact rfl | decide +kernel), lw_gi 9 (by first | exact rfl | decide +kernel) (by first | exact rfl | decide +kernel), rfl, by decide⟩
set_option maxRecDepth 100000 in
theorem hk_32 : pm_hk 0 m_32 := ⟨⟨lw_gi 489 rfl rfl, hi_3, hc_3, hv_3, hp_12⟩, lw_gi 487 (by first | exact rfl | decide +kernel) (by first | exact rfl | decide +kernel), lw_gi 488 (by first | exact rfl | decide +kernel) (by first | exact rfl | decide +kernel), rfl, by decide⟩
set_option maxRecDepth 100000 in
theorem hk_33 : pm_hk 0 m_33 := ⟨⟨lw_gi 495 rfl rfl, hi_2, hc_2, hv_2, hp_0⟩, lw_gi 494 (by first | exact rfl | decide +kernel) (by first | exact rfl | decide +kernel), lw_gi 10 (by first | exact rfl | decide +kernel) (by first | exact rfl | decide +kernel), rfl, by decide⟩
set_option maxRecDepth 100000 in
theorem hk_34 : pm_hk 0 m_34 := ⟨⟨lw_gi 500 rfl rfl, hi_2, hc_2, hv_2, hp_0⟩, lw_gi 499 (by first | exact rfl | decide +kernel) (by first | exact rfl | decide +kernel), lw_gi 11 (by first | exact rfl | decide +kernel) (by first | exact rfl | decide +kernel), rfl, by decide⟩
set_option maxRecDepth 100000 in
theorem hk_35 : pm_hk 0 m_35 := ⟨⟨lw_gi 505 rfl rfl, hi_2, hc_2, hv_2, hp_0⟩, lw_gi 504 (by first | exact rfl | decide +kernel) (by first | exact rfl | decide +kernel), lw_gi 12 (by first | exact rfl | decide +kernel) (by first | exact rfl | decide +kernel), rfl, by decide⟩
set_option maxRecDepth 100000 in
theorem hk_36 : pm_hk 0 m_36 := ⟨⟨lw_gi 509 rfl rfl, hi_2, hc_2, hv_2, hp_0⟩, lw_gi 508 (by first | exact rfl | decide +kernel) (by first | exact rfl | decide +kernel), lw_gi 13 (by first | exact rfl | decide +kernel) (by first | exact rfl | decide +kernel), rfl, by decide⟩
set_option maxRecDepth 100000 in
theorem hk_37 : pm_hk 0 m_37 := ⟨⟨lw_gi 513 rfl rfl, hi_2, hc_2, hv_2, hp_13⟩, lw_gi 512 (by first | exact rfl | decide +kernel) (by first | exact rfl | decide +kernel), lw_gi 14 (by first | exact rfl | decide +kernel) (by first | exact rfl | decide +kernel), rfl, by decide⟩
set_option maxRecDepth 100000 in
theorem hk_38 : pm_hk 0 m_38 := ⟨⟨lw_gi 517 rfl rfl, hi_3, hc_3, hv_3, hp_5⟩, lw_gi 515 (by first | exact rfl | decide +kernel) (by first | exact rfl | decide +kernel), lw_gi 516 (by first | exact rfl | decide +kernel) (by first | exact rfl | decide +kernel), rfl, by decide⟩
set_option maxRecDepth 100000 in
theorem hk_39 : pm_hk 0 m_39 := ⟨⟨lw_gi 521 rfl rfl, hi_3, hc_3, hv_3, hp_6⟩, lw_gi 519 (by first | exact rfl | decide +kernel) (by first | exact rfl | decide +kernel), lw_gi 520 (by first | exact rfl | decide +kernel) (by first | exact rfl | decide +kernel), rfl, by decide⟩
set_option maxRecDepth 100000 in
theorem hk_40 : pm_hk 0 m_40 := ⟨⟨lw_gi 525 rfl rfl, hi_3, hc_3, hv_3, hp_5⟩, lw_gi 523 (by first | exact rfl | decide +kernel) (by first | exact rfl | decide +kernel), lw_gi 524 (by first | exact rfl | decide +kernel) (by first | exact rfl | decide +kernel), rfl, by decide⟩
set_option maxRecDepth 100000 in
theorem hk_41 : pm_hk 0 m_41 := ⟨⟨lw_gi 530 rfl rfl, hi_3, hc_3, hv_3, hp_14⟩, lw_gi 528 (by first | exact rfl | decide +kernel) (by first | exact rfl | decide +kernel), lw_gi 529 (by first | exact rfl | decide +kernel) (by first | exact rfl | decide +kernel), rfl, by decide⟩
set_option maxRecDepth 100000 in
theorem hk_42 : pm_hk 0 m_42 := ⟨⟨lw_gi 534 rfl rfl, hi_3, hc_3, hv_3, hp_14⟩, lw_gi 532 (by first | exact rfl | decide +kernel) (by first | exact rfl | decide +kernel), lw_gi 533 (by first | exact rfl | decide +kernel) (by first | exact rfl | decide +kernel), rfl, by decide⟩
set_option maxRecDepth 100000 in
theorem hk_43 : pm_hk 0 m_43 := ⟨⟨lw_gi 541 rfl rfl, hi_0, hc_0, hv_0, hp_6⟩, lw_gi 539 (by first | exact rfl | decide +kernel) (by first | exact rfl | decide +kernel), lw_gi 540 (by first | exact rfl | decide +kernel) (by first | exact rfl | decide +kernel), rfl, by decide⟩
set_option maxRecDepth 100000 in
theorem hk_44 : pm_hk 0 m_44 := ⟨⟨lw_gi 545 rfl rfl, hi_0, hc_0, hv_0, hp_4⟩, lw_gi 543 (by first | exact rfl | decide +kernel) (by first | exact rfl | decide +kernel), lw_gi 544 (by first | exact rfl | decide +kernel) (by first | exact rfl | decide +kernel), rfl, by decide⟩
set_option maxRecDepth 100000 in
theorem hk_45 : pm_hk 0 m_45 := ⟨⟨lw_gi 549 rfl rfl, hi_0, hc_0, hv_0, hp_10⟩, lw_gi 547 (by first | exact rfl | decide +kernel) (by first | exact rfl | decide +kernel), lw_gi 548 (by first | exact rfl | decide +kernel) (by first | exact rfl | decide +kernel), rfl, by decide⟩
set_option maxRecDepth 100000 in
theorem hk_46 : pm_hk 0 m_46 := ⟨⟨lw_gi 554 rfl rfl, hi_0, hc_0, hv_0, hp_4⟩, lw_gi 552 (by first | exact rfl | decide +kernel) (by first | exact rfl | decide +kernel), lw_gi 553 (by first | exact rfl | decide +kernel) (by first | exact rfl | decide +kernel), rfl, by decide⟩
set_option maxRecDepth 100000 in
theorem hk_47 : pm_hk 0 m_47 := ⟨⟨lw_gi 560 rfl rfl, hi_0, hc_0, hv_0, hp_10⟩, lw_gi 558 (by first | exact rfl | decide +kernel) (by first | exact rfl | decide +kernel), lw_gi 559 (by first | exact rfl | decide +kernel) (by first | exact rfl | decide +kernel), rfl, by decide⟩
set_option maxRecDepth 100000 in
theorem hk_48 : pm_hk 2 m_48 := ⟨⟨lw_gi 563 rfl rfl, hi_0, hc_0, hv_0, hp_5⟩, lw_gi 562 (by first | exact rfl | decide +kernel) (by first | exact rfl | decide +kernel)⟩
set_option maxRecDepth 100000 in
theorem hk_49 : pm_hk 0 m_49 := ⟨⟨lw_gi 567 rfl rfl, hi_0, hc_0, hv_0, hp_10⟩, lw_gi 565 (by first | exact rfl | decide +kernel) (by first | exact rfl | decide +kernel), lw_gi 566 (by first | exact rfl | decide +kernel) (by first | exact rfl | decide +kernel), rfl, by decide⟩
set_option maxRecDepth 100000 in
theorem hk_50 : pm_hk 0 m_50 := ⟨⟨lw_gi 571 rfl rfl, hi_3, hc_3, hv_3, hp_15⟩, lw_gi 569 (by first | exact rfl | decide +kernel) (by first | exact rfl | decide +kernel), lw_gi 570 (by first | exact rfl | decide +kernel) (by first | exact rfl | decide +kernel), rfl, by decide⟩
set_option maxRecDepth 100000 in
theorem hk_51 : pm_hk 0 m_51 := ⟨⟨lw_gi 576 rfl rfl, hi_0, hc_0, hv_0, hp_16⟩, lw_gi 574 (by first | exact rfl | decide +kernel) (by first | exact rfl | decide +kernel), lw_gi 575 (by first | exact rfl | decide +kernel) (by first | exact rfl | decide +kernel), rfl, by decide⟩
set_option maxRecDepth 100000 in
theorem hk_52 : pm_hk 0 m_52 := ⟨⟨lw_gi 580 rfl rfl, hi_0, hc_0, hv_0, hp_10⟩, lw_gi 578 (by first | exact rfl | decide +kernel) (by first | exact rfl | decide +kernel), lw_gi 579 (by first | exact rfl | decide +kernel) (by first | exact rfl | decide +kernel), rfl, by decide⟩
set_option maxRecDepth 100000 in
theorem hk_53 : pm_hk 0 m_53 := ⟨⟨lw_gi 584 rfl rfl, hi_0, hc_0, hv_0, hp_16⟩, lw_gi 582 (by first | exact rfl | decide +kernel) (by first | exact rfl | decide +kernel), lw_gi 583 (by first | exact rfl | decide +kernel) (by first | exact rfl | decide +kernel), rfl, by decide⟩
set_option maxRecDepth 100000 in
theorem hk_54 : pm_hk 0 m_54 := ⟨⟨lw_gi 589 rfl rfl, hi_0, hc_0, hv_0, hp_10⟩, lw_gi 587 (by first | exact rfl | decide +kernel) (by first | exact rfl | decide +kernel), lw_gi 588 (by first | exact rfl | decide +kernel) (by first | exact rfl | decide +kernel), rfl, by decide⟩
set_option maxRecDepth 100000 in
theorem hk_55 : pm_hk 0 m_55 := ⟨⟨lw_gi 593 rfl rfl, hi_0, hc_0, hv_0, hp_4⟩, lw_gi 591 (by first | exact rfl | decide +kernel) (by first | exact rfl | decide +kernel), lw_gi 592 (by first | exact rfl | decide +kernel) (by first | exact rfl | decide +kernel), rfl, by decide⟩
set_option maxRecDepth 100000 in
theorem hk_56 : pm_hk 0 m_56 := ⟨⟨lw_gi 597 rfl rfl, hi_0, hc_0, hv_0, hp_10⟩, lw_gi 595 (by first | exact rfl | decide +kernel) (by first | exact rfl | decide +kernel), lw_gi 596 (by first | exact rfl | decide +kernel) (by first | exact rfl | decide +kernel), rfl, by decide⟩
set_option maxRecDepth 100000 in
theorem hk_57 : pm_hk 2 m_57 := ⟨⟨lw_gi 600 rfl rfl, hi_0, hc_0, hv_0, hp_5⟩, lw_gi 599 (by first | exact rfl | decide +kernel) (by first | exact rfl | decide +kernel)⟩
set_option maxRecDepth 100000 in
theorem hk_58 : pm_hk 0 m_58 := ⟨⟨lw_gi 604 rfl rfl, hi_5, hc_5, hv_5, hp_14⟩, lw_gi 602 (by first | exact rfl | decide +kernel) (by first | exact rfl | decide +kernel), lw_gi 603 (by first | exact rfl | decide +kernel) (by first | exact rfl | decide +kernel), rfl, by decide⟩
set_option maxRecDepth 100000 in
theorem hk_59 : pm_hk 0 m_59 := ⟨⟨lw_gi 608 rfl rfl, hi_3, hc_3, hv_3, hp_4⟩, lw_gi 606 (by first | exact rfl | decide +kernel) (by first | exact rfl | decide +kernel), lw_gi 607 (by first | exact rfl | decide +kernel) (by first | exact rfl | decide +kernel), rfl, by decide⟩
set_option maxRecDepth 100000 in
theorem hk_60 : pm_hk 0 m_60 := ⟨⟨lw_gi 612 rfl rfl, hi_3, hc_3, hv_3, hp_4⟩, lw_gi 610 (by first | exact rfl | decide +kernel) (by first | exact rfl | decide +kernel), lw_gi 611 (by first | exact rfl | decide +kernel) (by first | exact rfl | decide +kernel), rfl, by decide⟩
set_option maxRecDepth 100000 in
theorem hk_61 : pm_hk 0 m_61 := ⟨⟨lw_gi 616 rfl rfl, hi_5, hc_5, hv_5, hp_17⟩, lw_gi 615 (by first | exact rfl | decide +kernel) (by first | exact rfl | decide +kernel), lw_gi 15 (by first | exact rfl | decide +kernel) (by first | exact rfl | decide +kernel), rfl, by decide⟩
set_option maxRecDepth 100000 in
theorem hk_62 : pm_hk 2 m_62 := ⟨⟨lw_gi 619 rfl rfl, hi_8, hc_8, hv_8, hp_4⟩, lw_gi 618 (by first | exact rfl | decide +kernel) (by first | exact rfl | decide +kernel)⟩
set_option maxRecDepth 100000 in
theorem hk_63 : pm_hk 2 m_63 := ⟨⟨lw_gi 622 rfl rfl, hi_9, hc_9, hv_9, hp_10⟩, lw_gi 621 (by first | exact rfl | decide +kernel) (by first | exact rfl | decide +kernel)⟩
set_option maxRecDepth 100000 in
theorem hk_64 : pm_hk 2 m_64 := ⟨⟨lw_gi 625 rfl rfl, hi_5, hc_5, hv_5, hp_10⟩, lw_gi 624 (by first | exact rfl | decide +kernel) (by first | exact rfl | decide +kernel)⟩
set_option maxRecDepth 100000 in
theorem hk_65 : pm_hk 0 m_65 := ⟨⟨lw_gi 629 rfl rfl, hi_0, hc_0, hv_0, hp_4⟩, lw_gi 627 (by first | exact rfl | decide +kernel) (by first | exact rfl | decide +kernel), lw_gi 628 (by first | exact rfl | decide +kernel) (by first | exact rfl | decide +kernel), rfl, by decide⟩
set_option maxRecDepth 100000 in
theorem hk_66 : pm_hk 0 m_66 := ⟨⟨lw_gi 633 rfl rfl, hi_0, hc_0, hv_0, hp_6⟩, lw_gi 631 (by first | exact rfl | decide +kernel) (by first | exact rfl | decide +kernel), lw_gi 632 (by first | exact rfl | decide +kernel) (by first | exact rfl | decide +kernel), rfl, by decide⟩
set_option maxRecDepth 100000 in
theorem hk_67 : pm_hk 0 m_67 := ⟨⟨lw_gi 637 rfl rfl, hi_6, hc_6, hv_6, hp_18⟩, lw_gi 635 (by first | exact rfl | decide +kernel) (by first | exact rfl | decide +kernel), lw_gi 636 (by first | exact rfl | decide +kernel) (by first | exact rfl | decide +kernel), rfl, by decide⟩
set_option maxRecDepth 100000 in
theorem hk_68 : pm_hk 0 m_68 := ⟨⟨lw_gi 642 rfl rfl, hi_5, hc_5, hv_5, hp_14⟩, lw_gi 640 (by first | exact rfl | decide +kernel) (by first | exact rfl | decide +kernel), lw_gi 641 (by first | exact rfl | decide +kernel) (by first | exact rfl | decide +kernel), rfl, by decide⟩
set_option maxRecDepth 100000 in
theorem hk_69 : pm_hk 0 m_69 := ⟨⟨lw_gi 647 rfl rfl, hi_5, hc_5, hv_5, hp_14⟩, lw_gi 646 (by first | exact rfl | decide +kernel) (by first | exact rfl | decide +kernel), lw_gi 16 (by first | exact rfl | decide +kernel) (by first | exact rfl | decide +kernel), rfl, by decide⟩
set_option maxRecDepth 100000 in
theorem hk_70 : pm_hk 0 m_70 := ⟨⟨lw_gi 651 rfl rfl, hi_5, hc_5, hv_5, hp_14⟩, lw_gi 650 (by first | exact rfl | decide +kernel) (by first | exact rfl | decide +kernel), lw_gi 17 (by first | exact rfl | decide +kernel) (by first | exact rfl | decide +kernel), rfl, by decide⟩
set_option maxRecDepth 100000 in
theorem hk_71 : pm_hk 0 m_71 := ⟨⟨lw_gi 655 rfl rfl, hi_5, hc_5, hv_5, hp_10⟩, lw_gi 654 (by first | exact rfl | decide +kernel) (by first | exact rfl | decide +kernel), lw_gi 18 (by first | exact rfl | decide +kernel) (by first | exact rfl | decide +kernel), rfl, by decide⟩
set_option maxRecDepth 100000 in
theorem hk_72 : pm_hk 2 m_72 := ⟨⟨lw_gi 658 rfl rfl, hi_0, hc_0, hv_0, hp_4⟩, lw_gi 657 (by first | exact rfl | decide +kernel) (by first | exact rfl | decide +kernel)⟩
set_option maxRecDepth 100000 in
theorem hk_73 : pm_hk 0 m_73 := ⟨⟨lw_gi 662 rfl rfl, hi_5, hc_5, hv_5, hp_5⟩, lw_gi 660 (by first | exact rfl | decide +kernel) (by first | exact rfl | decide +kernel), lw_gi 661 (by first | exact rfl | decide +kernel) (by first | exact rfl | decide +kernel), rfl, by decide⟩
set_option maxRecDepth 100000 in
theorem hk_74 : pm_hk 0 m_74 := ⟨⟨lw_gi 666 rfl rfl, hi_0, hc_0, hv_0, hp_6⟩, lw_gi 664 (by first | exact rfl | decide +kernel) (by first | exact rfl | decide +kernel), lw_gi 665 (by first | exact rfl | decide +kernel) (by first | exact rfl | decide +kernel), rfl, by decide⟩
set_option maxRecDepth 100000 in
theorem hk_75 : pm_hk 0 m_75 := ⟨⟨lw_gi 671 rfl rfl, hi_0, hc_0, hv_0, hp_4⟩, lw_gi 669 (by first | exact rfl | decide +kernel) (by first | exact rfl | decide +kernel), lw_gi 670 (by first | exact rfl | decide +kernel) (by first | exact rfl | decide +kernel), rfl, by decide⟩
set_option maxRecDepth 100000 in
theorem hk_76 : pm_hk 0 m_76 := ⟨⟨lw_gi 675 rfl rfl, hi_5, hc_5, hv_5, hp_19⟩, lw_gi 673 (by first | exact rfl | decide +kernel) (by first | exact rfl | decide +kernel), lw_gi 674 (by first | exact rfl | decide +kernel) (by first | exact rfl | decide +kernel), rfl, by decide⟩
set_option maxRecDepth 100000 in
theorem hk_77 : pm_hk 0 m_77 := ⟨⟨lw_gi 680 rfl rfl, hi_5, hc_5, hv_5, hp_13⟩, lw_gi 678 (by first | exact rfl | decide +kernel) (by first | exact rfl | decide +kernel), lw_gi 679 (by first | exact rfl | decide +kernel) (by first | exact rfl | decide +kernel), rfl, by decide⟩
set_option maxRecDepth 100000 in
theorem hk_78 : pm_hk 0 m_78 := ⟨⟨lw_gi 684 rfl rfl, hi_3, hc_3, hv_3, hp_6⟩, lw_gi 682 (by first | exact rfl | decide +kernel) (by first | exact rfl | decide +kernel), lw_gi 683 (by first | exact rfl | decide +kernel) (by first | exact rfl | decide +kernel), rfl, by decide⟩
set_option maxRecDepth 100000 in
theorem hk_79 : pm_hk 0 m_79 := ⟨⟨lw_gi 688 rfl rfl, hi_0, hc_0, hv_0, hp_20⟩, lw_gi 686 (by first | exact rfl | decide +kernel) (by first | exact rfl | decide +kernel), lw_gi 687 (by first | exact rfl | decide +kernel) (by first | exact rfl | decide +kernel), rfl, by decide⟩
set_option maxRecDepth 100000 in
theorem hk_80 : pm_hk 0 m_80 := ⟨⟨lw_gi 692 rfl rfl, hi_6, hc_6, hv_6, hp_21⟩, lw_gi 690 (by first | exact rfl | decide +kernel) (by first | exact rfl | decide +kernel), lw_gi 691 (by first | exact rfl | decide +kernel) (by first | exact rfl | decide +kernel), rfl, by decide⟩
set_option maxRecDepth 100000 in
theorem hk_81 : pm_hk 0 m_81 := ⟨⟨lw_gi 697 rfl rfl, hi_0, hc_0, hv_0, hp_6⟩, lw_gi 695 (by first | exact rfl | decide +kernel) (by first | exact rfl | decide +kernel), lw_gi 696 (by first | exact rfl | decide +kernel) (by first | exact rfl | decide +kernel), rfl, by decide⟩
set_option maxRecDepth 100000 in
theorem hk_82 : pm_hk 0 m_82 := ⟨⟨lw_gi 701 rfl rfl, hi_6, hc_6, hv_6, hp_18⟩, lw_gi 699 (by first | exact rfl | decide +kernel) (by first | exact rfl | decide +kernel), lw_gi 700 (by first | exact rfl | decide +kernel) (by first | exact rfl | decide +kernel), rfl, by decide⟩
set_option maxRecDepth 100000 in
theorem hk_83 : pm_hk 0 m_83 := ⟨⟨lw_gi 705 rfl rfl, hi_6, hc_6, hv_6, hp_13⟩, lw_gi 704 (by first | exact rfl | decide +kernel) (by first | exact rfl | decide +kernel), lw_gi 19 (by first | exact rfl | decide +kernel) (by first | exact rfl | decide +kernel), rfl, by decide⟩
set_option maxRecDepth 100000 in
theorem hk_84 : pm_hk 0 m_84 := ⟨⟨lw_gi 710 rfl rfl, hi_0, hc_0, hv_0, hp_4⟩, lw_gi 708 (by first | exact rfl | decide +kernel) (by first | exact rfl | decide +kernel), lw_gi 709 (by first | exact rfl | decide +kernel) (by first | exact rfl | decide +kernel), rfl, by decide⟩
set_option maxRecDepth 100000 in
theorem hk_85 : pm_hk 0 m_85 := ⟨⟨lw_gi 714 rfl rfl, hi_6, hc_6, hv_6, hp_18⟩, lw_gi 712 (by first | exact rfl | decide +kernel) (by first | exact rfl | decide +kernel), lw_gi 713 (by first | exact rfl | decide +kernel) (by first | exact rfl | decide +kernel), rfl, by decide⟩
set_option maxRecDepth 100000 in
theorem hk_86 : pm_hk 0 m_86 := ⟨⟨lw_gi 718 rfl rfl, hi_3, hc_3, hv_3, hp_22⟩, lw_gi 716 (by first | exact rfl | decide +kernel) (by first | exact rfl | decide +kernel), lw_gi 717 (by first | exact rfl | decide +kernel) (by first | exact rfl | decide +kernel), rfl, by decide⟩
set_option maxRecDepth 100000 in
theorem hk_87 : pm_hk 2 m_87 := ⟨⟨lw_gi 722 rfl rfl, hi_6, hc_6, hv_6, hp_4⟩, lw_gi 721 (by first | exact rfl | decide +kernel) (by first | exact rfl | decide +kernel)⟩
set_option maxRecDepth 100000 in
theorem hk_88 : pm_hk 2 m_88 := ⟨⟨lw_gi 725 rfl rfl, hi_6, hc_6, hv_6, hp_4⟩, lw_gi 724 (by first | exact rfl | decide +kernel) (by first | exact rfl | decide +kernel)⟩
set_option maxRecDepth 100000 in
theorem hk_89 : pm_hk 0 m_89 := ⟨⟨lw_gi 729 rfl rfl, hi_0, hc_0, hv_0, hp_10⟩, lw_gi 727 (by first | exact rfl | decide +kernel) (by first | exact rfl | decide +kernel), lw_gi 728 (by first | exact rfl | decide +kernel) (by first | exact rfl | decide +kernel), rfl, by decide⟩
set_option maxRecDepth 100000 in
theorem hk_90 : pm_hk 2 m_90 := ⟨⟨lw_gi 732 rfl rfl, hi_0, hc_0, hv_0, hp_5⟩, lw_gi 731 (by first | exact rfl | decide +kernel) (by first | exact rfl | decide +kernel)⟩
set_option maxRecDepth 100000 in
theorem hk_91 : pm_hk 0 m_91 := ⟨⟨lw_gi 736 rfl rfl, hi_0, hc_0, hv_0, hp_5⟩, lw_gi 735 (by first | exact rfl | decide +kernel) (by first | exact rfl | decide +kernel), lw_gi 20 (by first | exact rfl | decide +kernel) (by first | exact rfl | decide +kernel), rfl, by decide⟩
set_option maxRecDepth 100000 in
theorem hk_92 : pm_hk 0 m_92 := ⟨⟨lw_gi 740 rfl rfl, hi_6, hc_6, hv_6, hp_23⟩, lw_gi 738 (by first | exact rfl | decide +kernel) (by first | exact rfl | decide +kernel), lw_gi 739 (by first | exact rfl | decide +kernel) (by first | exact rfl | decide +kernel), rfl, by decide⟩
set_option maxRecDepth 100000 in
theorem hk_93 : pm_hk 2 m_93 := ⟨⟨lw_gi 743 rfl rfl, hi_0, hc_0, hv_0, hp_4⟩, lw_gi 742 (by first | exact rfl | decide +kernel) (by first | exact rfl | decide +kernel)⟩
set_option maxRecDepth 100000 in
theorem hk_94 : pm_hk 0 m_94 := ⟨⟨lw_gi 747 rfl rfl, hi_3, hc_3, hv_3, hp_4⟩, lw_gi 745 (by first | exact rfl | decide +kernel) (by first | exact rfl | decide +kernel), lw_gi 746 (by first | exact rfl | decide +kernel) (by first | exact rfl | decide +kernel), rfl, by decide⟩
set_option maxRecDepth 100000 in
theorem hk_95 : pm_hk 0 m_95 := ⟨⟨lw_gi 751 rfl rfl, hi_3, hc_3, hv_3, hp_10⟩, lw_gi 749 (by first | exact rfl | decide +kernel) (by first | exact rfl | decide +kernel), lw_gi 750 (by first | exact rfl | decide +kernel) (by first | exact rfl | decide +kernel), rfl, by decide⟩
set_option maxRecDepth 100000 in
theorem hk_96 : pm_hk 2 m_96 := ⟨⟨lw_gi 754 rfl rfl, hi_0, hc_0, hv_0, hp_20⟩, lw_gi 753 (by first | exact rfl | decide +kernel) (by first | exact rfl | decide +kernel)⟩
set_option maxRecDepth 100000 in
theorem hk_97 : pm_hk 0 m_97 := ⟨⟨lw_gi 758 rfl rfl, hi_6, hc_6, hv_6, hp_24⟩, lw_gi 757 (by first | exact rfl | decide +kernel) (by first | exact rfl | decide +kernel), lw_gi 21 (by first | exact rfl | decide +kernel) (by first | exact rfl | decide +kernel), rfl, by decide⟩
set_option maxRecDepth 100000 in
theorem hk_98 : pm_hk 0 m_98 := ⟨⟨lw_gi 763 rfl rfl, hi_3, hc_3, hv_3, hp_11⟩, lw_gi 761 (by first | exact rfl | decide +kernel) (by first | exact rfl | decide +kernel), lw_gi 762 (by first | exact rfl | decide +kernel) (by first | exact rfl | decide +kernel), rfl, by decide⟩
set_option maxRecDepth 100000 in
theorem hk_99 : pm_hk 0 m_99 := ⟨⟨lw_gi 767 rfl rfl, hi_3, hc_3, hv_3, hp_13⟩, lw_gi 765 (by first | exact rfl | decide +kernel) (by first | exact rfl | decide +kernel), lw_gi 766 (by first | exact rfl | decide +kernel) (by first | exact rfl | decide +kernel), rfl, by decide⟩
set_option maxRecDepth 100000 in
theorem hk_100 : pm_hk 0 m_100 := ⟨⟨lw_gi 772 rfl rfl, hi_3, hc_3, hv_3, hp_6⟩, lw_gi 770 (by first | exact rfl | decide +kernel) (by first | exact rfl | decide +kernel), lw_gi 771 (by first | exact rfl | decide +kernel) (by first | exact rfl | decide +kernel), rfl, by decide⟩
set_option maxRecDepth 100000 in
theorem hk_101 : pm_hk 0 m_101 := ⟨⟨lw_gi 778 rfl rfl, hi_0, hc_0, hv_0, hp_6⟩, lw_gi 776 (by first | exact rfl | decide +kernel) (by first | exact rfl | decide +kernel), lw_gi 777 (by first | exact rfl | decide +kernel) (by first | exact rfl | decide +kernel), rfl, by decide⟩
set_option maxRecDepth 100000 in
theorem hk_102 : pm_hk 0 m_102 := ⟨⟨lw_gi 782 rfl rfl, hi_6, hc_6, hv_6, hp_18⟩, lw_gi 780 (by first | exact rfl | decide +kernel) (by first | exact rfl | decide +kernel), lw_gi 781 (by first | exact rfl | decide +kernel) (by first | exact rfl | decide +kernel), rfl, by decide⟩
set_option maxRecDepth 100000 in
theorem hk_103 : pm_hk 0 m_103 := ⟨⟨lw_gi 786 rfl rfl, hi_3, hc_3, hv_3, hp_11⟩, lw_gi 784 (by first | exact rfl | decide +kernel) (by first | exact rfl | decide +kernel), lw_gi 785 (by first | exact rfl | decide +kernel) (by first | exact rfl | decide +kernel), rfl, by decide⟩
set_option maxRecDepth 100000 in
theorem hk_104 : pm_hk 0 m_104 := ⟨⟨lw_gi 790 rfl rfl, hi_0, hc_0, hv_0, hp_4⟩, lw_gi 788 (by first | exact rfl | decide +kernel) (by first | exact rfl | decide +kernel), lw_gi 789 (by first | exact rfl | decide +kernel) (by first | exact rfl | decide +kernel), rfl, by decide⟩
set_option maxRecDepth 100000 in
theorem hk_105 : pm_hk 0 m_105 := ⟨⟨lw_gi 794 rfl rfl, hi_6, hc_6, hv_6, hp_23⟩, lw_gi 792 (by first | exact rfl | decide +kernel) (by first | exact rfl | decide +kernel), lw_gi 793 (by first | exact rfl | decide +kernel) (by first | exact rfl | decide +kernel), rfl, by decide⟩
set_option maxRecDepth 100000 in
theorem hk_106 : pm_hk 0 m_106 := ⟨⟨lw_gi 800 rfl rfl, hi_0, hc_0, hv_0, hp_25⟩, lw_gi 798 (by first | exact rfl | decide +kernel) (by first | exact rfl | decide +kernel), lw_gi 799 (by first | exact rfl | decide +kernel) (by first | exact rfl | decide +kernel), rfl, by decide⟩
set_option maxRecDepth 100000 in
theorem hk_107 : pm_hk 0 m_107 := ⟨⟨lw_gi 804 rfl rfl, hi_6, hc_6, hv_6, hp_26⟩, lw_gi 802 (by first | exact rfl | decide +kernel) (by first | exact rfl | decide +kernel), lw_gi 803 (by first | exact rfl | decide +kernel) (by first | exact rfl | decide +kernel), rfl, by decide⟩
set_option maxRecDepth 100000 in
theorem hk_108 : pm_hk 0 m_108 := ⟨⟨lw_gi 808 rfl rfl, hi_6, hc_6, hv_6, hp_27⟩, lw_gi 807 (by first | exact rfl | decide +kernel) (by first | exact rfl | decide +kernel), lw_gi 22 (by first | exact rfl | decide +kernel) (by first | exact rfl | decide +kernel), rfl, by decide⟩
set_option maxRecDepth 100000 in
theorem hk_109 : pm_hk 0 m_109 := ⟨⟨lw_gi 813 rfl rfl, hi_3, hc_3, hv_3, hp_10⟩, lw_gi 811 (by first | exact rfl | decide +kernel) (by first | exact rfl | decide +kernel), lw_gi 812 (by first | exact rfl | decide +kernel) (by first | exact rfl | decide +kernel), rfl, by decide⟩
set_option maxRecDepth 100000 in
theorem hk_110 : pm_hk 0 m_110 := ⟨⟨lw_gi 821 rfl rfl, hi_0, hc_0, hv_0, hp_20⟩, lw_gi 819 (by first | exact rfl | decide +kernel) (by first | exact rfl | decide +kernel), lw_gi 820 (by first | exact rfl | decide +kernel) (by first | exact rfl | decide +kernel), rfl, by decide⟩
set_option maxRecDepth 100000 in
theorem hk_111 : pm_hk 0 m_111 := ⟨⟨lw_gi 825 rfl rfl, hi_6, hc_6, hv_6, hp_28⟩, lw_gi 823 (by first | exact rfl | decide +kernel) (by first | exact rfl | decide +kernel), lw_gi 824 (by first | exact rfl | decide +kernel) (by first | exact rfl | decide +kernel), rfl, by decide⟩
set_option maxRecDepth 100000 in
theorem hk_112 : pm_hk 0 m_112 := ⟨⟨lw_gi 833 rfl rfl, hi_0, hc_0, hv_0, hp_29⟩, lw_gi 831 (by first | exact rfl | decide +kernel) (by first | exact rfl | decide +kernel), lw_gi 832 (by first | exact rfl | decide +kernel) (by first | exact rfl | decide +kernel), rfl, by decide⟩
set_option maxRecDepth 100000 in
theorem hk_113 : pm_hk 0 m_113 := ⟨⟨lw_gi 838 rfl rfl, hi_6, hc_6, hv_6, hp_30⟩, lw_gi 836 (by first | exact rfl | decide +kernel) (by first | exact rfl | decide +kernel), lw_gi 837 (by first | exact rfl | decide +kernel) (by first | exact rfl | decide +kernel), rfl, by decide⟩
set_option maxRecDepth 100000 in
theorem hk_114 : pm_hk 2 m_114 := ⟨⟨lw_gi 841 rfl rfl, hi_6, hc_6, hv_6, hp_30⟩, lw_gi 840 (by first | exact rfl | decide +kernel) (by first | exact rfl | decide +kernel)⟩
set_option maxRecDepth 100000 in
theorem hk_115 : pm_hk 0 m_115 := ⟨⟨lw_gi 845 rfl rfl, hi_6, hc_6, hv_6, hp_19⟩, lw_gi 844 (by first | exact rfl | decide +kernel) (by first | exact rfl | decide +kernel), lw_gi 23 (by first | exact rfl | decide +kernel) (by first | exact rfl | decide +kernel), rfl, by decide⟩
set_option maxRecDepth 100000 in
theorem hk_116 : pm_hk 0 m_116 := ⟨⟨lw_gi 850 rfl rfl, hi_3, hc_3, hv_3, hp_22⟩, lw_gi 848 (by first | exact rfl | decide +kernel) (by first | exact rfl | decide +kernel), lw_gi 849 (by first | exact rfl | decide +kernel) (by first | exact rfl | decide +kernel), rfl, by decide⟩
set_option maxRecDepth 100000 in
theorem hk_117 : pm_hk 2 m_117 := ⟨⟨lw_gi 854 rfl rfl, hi_0, hc_0, hv_0, hp_31⟩, lw_gi 853 (by first | exact rfl | decide +kernel) (by first | exact rfl | decide +kernel)⟩
set_option maxRecDepth 100000 in
theorem hk_118 : pm_hk 0 m_118 := ⟨⟨lw_gi 858 rfl rfl, hi_0, hc_0, hv_0, hp_10⟩, lw_gi 856 (by first | exact rfl | decide +kernel) (by first | exact rfl | decide +kernel), lw_gi 857 (by first | exact rfl | decide +kernel) (by first | exact rfl | decide +kernel), rfl, by decide⟩
set_option maxRecDepth 100000 in
theorem hk_119 : pm_hk 0 m_119 := ⟨⟨lw_gi 862 rfl rfl, hi_0, hc_0, hv_0, hp_4⟩, lw_gi 860 (by first | exact rfl | decide +kernel) (by first | exact rfl | decide +kernel), lw_gi 861 (by first | exact rfl | decide +kernel) (by first | exact rfl | decide +kernel), rfl, by decide⟩
set_option maxRecDepth 100000 in
theorem hk_120 : pm_hk 0 m_120 := ⟨⟨lw_gi 866 rfl rfl, hi_0, hc_0, hv_0, hp_4⟩, lw_gi 864 (by first | exact rfl | decide +kernel) (by first | exact rfl | decide +kernel), lw_gi 865 (by first | exact rfl | decide +kernel) (by first | exact rfl | decide +kernel), rfl, by decide⟩
set_option maxRecDepth 100000 in
theorem hk_121 : pm_hk 0 m_121 := ⟨⟨lw_gi 870 rfl rfl, hi_6, hc_6, hv_6, hp_18⟩, lw_gi 868 (by first | exact rfl | decide +kernel) (by first | exact rfl | decide +kernel), lw_gi 869 (by first | exact rfl | decide +kernel) (by first | exact rfl | decide +kernel), rfl, by decide⟩
set_option maxRecDepth 100000 in
theorem hk_122 : pm_hk 0 m_122 := ⟨⟨lw_gi 874 rfl rfl, hi_6, hc_6, hv_6, hp_32⟩, lw_gi 873 (by first | exact rfl | decide +kernel) (by first | exact rfl | decide +kernel), lw_gi 24 (by first | exact rfl | decide +kernel) (by first | exact rfl | decide +kernel), rfl, by decide⟩
set_option maxRecDepth 100000 in
theorem hk_123 : pm_hk 0 m_123 := ⟨⟨lw_gi 878 rfl rfl, hi_5, hc_5, hv_5, hp_4⟩, lw_gi 876 (by first | exact rfl | decide +kernel) (by first | exact rfl | decide +kernel), lw_gi 877 (by first | exact rfl | decide +kernel) (by first | exact rfl | decide +kernel), rfl, by decide⟩
set_option maxRecDepth 100000 in
theorem hk_124 : pm_hk 0 m_124 := ⟨⟨lw_gi 883 rfl rfl, hi_6, hc_6, hv_6, hp_23⟩, lw_gi 881 (by first | exact rfl | decide +kernel) (by first | exact rfl | decide +kernel), lw_gi 882 (by first | exact rfl | decide +kernel) (by first | exact rfl | decide +kernel), rfl, by decide⟩
set_option maxRecDepth 100000 in
theorem hk_125 : pm_hk 0 m_125 := ⟨⟨lw_gi 888 rfl rfl, hi_0, hc_0, hv_0, hp_10⟩, lw_gi 886 (by first | exact rfl | decide +kernel) (by first | exact rfl | decide +kernel), lw_gi 887 (by first | exact rfl | decide +kernel) (by first | exact rfl | decide +kernel), rfl, by decide⟩
set_option maxRecDepth 100000 in
theorem hk_126 : pm_hk 0 m_126 := ⟨⟨lw_gi 892 rfl rfl, hi_6, hc_6, hv_6, hp_28⟩, lw_gi 890 (by first | exact rfl | decide +kernel) (by first | exact rfl | decide +kernel), lw_gi 891 (by first | exact rfl | decide +kernel) (by first | exact rfl | decide +kernel), rfl, by decide⟩
set_option maxRecDepth 100000 in
theorem hk_127 : pm_hk 2 m_127 := ⟨⟨lw_gi 896 rfl rfl, hi_9, hc_9, hv_9, hp_4⟩, lw_gi 895 (by first | exact rfl | decide +kernel) (by first | exact rfl | decide +kernel)⟩
set_option maxRecDepth 100000 in
theorem hk_128 : pm_hk 0 m_128 := ⟨⟨lw_gi 903 rfl rfl, hi_0, hc_0, hv_0, hp_4⟩, lw_gi 901 (by first | exact rfl | decide +kernel) (by first | exact rfl | decide +kernel), lw_gi 902 (by first | exact rfl | decide +kernel) (by first | exact rfl | decide +kernel), rfl, by decide⟩
set_option maxRecDepth 100000 in
theorem hk_129 : pm_hk 0 m_129 := ⟨⟨lw_gi 907 rfl rfl, hi_0, hc_0, hv_0, hp_4⟩, lw_gi 905 (by first | exact rfl | decide +kernel) (by first | exact rfl | decide +kernel), lw_gi 906 (by first | exact rfl | decide +kernel) (by first | exact rfl | decide +kernel), rfl, by decide⟩
set_option maxRecDepth 100000 in
theorem hk_130 : pm_hk 0 m_130 := ⟨⟨lw_gi 911 rfl rfl, hi_0, hc_0, hv_0, hp_20⟩, lw_gi 909 (by first | exact rfl | decide +kernel) (by first | exact rfl | decide +kernel), lw_gi 910 (by first | exact rfl | decide +kernel) (by first | exact rfl | decide +kernel), rfl, by decide⟩
set_option maxRecDepth 100000 in
theorem hk_131 : pm_hk 2 m_131 := ⟨⟨lw_gi 914 rfl rfl, hi_0, hc_0, hv_0, hp_5⟩, lw_gi 913 (by first | exact rfl | decide +kernel) (by first | exact rfl | decide +kernel)⟩
set_option maxRecDepth 100000 in
theorem hk_132 : pm_hk 2 m_132 := ⟨⟨lw_gi 917 rfl rfl, hi_0, hc_0, hv_0, hp_5⟩, lw_gi 916 (by first | exact rfl | decide +kernel) (by first | exact rfl | decide +kernel)⟩
set_option maxRecDepth 100000 in
theorem hk_133 : pm_hk 0 m_133 := ⟨⟨lw_gi 921 rfl rfl, hi_7, hc_7, hv_7, hp_7⟩, lw_gi 919 (by first | exact rfl | decide +kernel) (by first | exact rfl | decide +kernel), lw_gi 920 (by first | exact rfl | decide +kernel) (by first | exact rfl | decide +kernel), rfl, by decide⟩
set_option maxRecDepth 100000 in
theorem hk_134 : pm_hk 0 m_134 := ⟨⟨lw_gi 926 rfl rfl, hi_0, hc_0, hv_0, hp_20⟩, lw_gi 924 (by first | exact rfl | decide +kernel) (by first | exact rfl | decide +kernel), lw_gi 925 (by first | exact rfl | decide +kernel) (by first | exact rfl | decide +kernel), rfl, by decide⟩
set_option maxRecDepth 100000 in
theorem hk_135 : pm_hk 0 m_135 := ⟨⟨lw_gi 930 rfl rfl, hi_7, hc_7, hv_7, hp_4⟩, lw_gi 928 (by first | exact rfl | decide +kernel) (by first | exact rfl | decide +kernel), lw_gi 929 (by first | exact rfl | decide +kernel) (by first | exact rfl | decide +kernel), rfl, by decide⟩
set_option maxRecDepth 100000 in
theorem hk_136 : pm_hk 0 m_136 := ⟨⟨lw_gi 934 rfl rfl, hi_7, hc_7, hv_7, hp_13⟩, lw_gi 932 (by first | exact rfl | decide +kernel) (by first | exact rfl | decide +kernel), lw_gi 933 (by first | exact rfl | decide +kernel) (by first | exact rfl | decide +kernel), rfl, by decide⟩
set_option maxRecDepth 100000 in
theorem hk_137 : pm_hk 0 m_137 := ⟨⟨lw_gi 938 rfl rfl, hi_7, hc_7, hv_7, hp_7⟩, lw_gi 936 (by first | exact rfl | decide +kernel) (by first | exact rfl | decide +kernel), lw_gi 937 (by first | exact rfl | decide +kernel) (by first | exact rfl | decide +kernel), rfl, by decide⟩
set_option maxRecDepth 100000 in
theorem hk_138 : pm_hk 0 m_138 := ⟨⟨lw_gi 942 rfl rfl, hi_0, hc_0, hv_0, hp_25⟩, lw_gi 940 (by first | exact rfl | decide +kernel) (by first | exact rfl | decide +kernel), lw_gi 941 (by first | exact rfl | decide +kernel) (by first | exact rfl | decide +kernel), rfl, by decide⟩
set_option maxRecDepth 100000 in
theorem hk_139 : pm_hk 0 m_139 := ⟨⟨lw_gi 946 rfl rfl, hi_7, hc_7, hv_7, hp_4⟩, lw_gi 944 (by first | exact rfl | decide +kernel) (by first | exact rfl | decide +kernel), lw_gi 945 (by first | exact rfl | decide +kernel) (by first | exact rfl | decide +kernel), rfl, by decide⟩
set_option maxRecDepth 100000 in
theorem hk_140 : pm_hk 0 m_140 := ⟨⟨lw_gi 950 rfl rfl, hi_7, hc_7, hv_7, hp_4⟩, lw_gi 948 (by first | exact rfl | decide +kernel) (by first | exact rfl | decide +kernel), lw_gi 949 (by first | exact rfl | decide +kernel) (by first | exact rfl | decide +kernel), rfl, by decide⟩
set_option maxRecDepth 100000 in
theorem hk_141 : pm_hk 0 m_141 := ⟨⟨lw_gi 955 rfl rfl, hi_0, hc_0, hv_0, hp_33⟩, lw_gi 954 (by first | exact rfl | decide +kernel) (by first | exact rfl | decide +kernel), lw_gi 25 (by first | exact rfl | decide +kernel) (by first | exact rfl | decide +kernel), rfl, by decide⟩
set_option maxRecDepth 100000 in
theorem hk_142 : pm_hk 0 m_142 := ⟨⟨lw_gi 959 rfl rfl, hi_0, hc_0, hv_0, hp_6⟩, lw_gi 957 (by first | exact rfl | decide +kernel) (by first | exact rfl | decide +kernel), lw_gi 958 (by first | exact rfl | decide +kernel) (by first | exact rfl | decide +kernel), rfl, by decide⟩
set_option maxRecDepth 100000 in
theorem hk_143 : pm_hk 0 m_143 := ⟨⟨lw_gi 963 rfl rfl, hi_0, hc_0, hv_0, hp_4⟩, lw_gi 961 (by first | exact rfl | decide +kernel) (by first | exact rfl | decide +kernel), lw_gi 962 (by first | exact rfl | decide +kernel) (by first | exact rfl | decide +kernel), rfl, by decide⟩
set_option maxRecDepth 100000 in
theorem hk_144 : pm_hk 0 m_144 := ⟨⟨lw_gi 970 rfl rfl, hi_3, hc_3, hv_3, hp_6⟩, lw_gi 968 (by first | exact rfl | decide +kernel) (by first | exact rfl | decide +kernel), lw_gi 969 (by first | exact rfl | decide +kernel) (by first | exact rfl | decide +kernel), rfl, by decide⟩
set_option maxRecDepth 100000 in
theorem hk_145 : pm_hk 1 m_145 := ⟨⟨lw_gi 975 rfl rfl, hi_10, hc_10, hv_10, hp_0⟩, lw_gi 974 (by first | exact rfl | decide +kernel) (by first | exact rfl | decide +kernel), rfl, rfl⟩
set_option maxRecDepth 100000 in
theorem hk_146 : pm_hk 0 m_146 := ⟨⟨lw_gi 980 rfl rfl, hi_10, hc_10, hv_10, hp_0⟩, lw_gi 979 (by first | exact rfl | decide +kernel) (by first | exact rfl | decide +kernel), lw_gi 26 (by first | exact rfl | decide +kernel) (by first | exact rfl | decide +kernel), rfl, by decide⟩
set_option maxRecDepth 100000 in
theorem hk_147 : pm_hk 0 m_147 := ⟨⟨lw_gi 984 rfl rfl, hi_10, hc_10, hv_10, hp_0⟩, lw_gi 983 (by first | exact rfl | decide +kernel) (by first | exact rfl | decide +kernel), lw_gi 27 (by first | exact rfl | decide +kernel) (by first | exact rfl | decide +kernel), rfl, by decide⟩
set_option maxRecDepth 100000 in
theorem hk_148 : pm_hk 0 m_148 := ⟨⟨lw_gi 1095 rfl rfl, hi_10, hc_10, hv_10, hp_4⟩, lw_gi 1093 (by first | exact rfl | decide +kernel) (by first | exact rfl | decide +kernel), lw_gi 1094 (by first | exact rfl | decide +kernel) (by first | exact rfl | decide +kernel), rfl, by decide⟩
set_option maxRecDepth 100000 in
theorem hk_149 : pm_hk 2 m_149 := ⟨⟨lw_gi 1099 rfl rfl, hi_10, hc_10, hv_10, hp_34⟩, lw_gi 1098 (by first | exact rfl | decide +kernel) (by first | exact rfl | decide +kernel)⟩
set_option maxRecDepth 100000 in
theorem hk_150 : pm_hk 0 m_150 := ⟨⟨lw_gi 1103 rfl rfl, hi_10, hc_10, hv_10, hp_4⟩, lw_gi 1101 (by first | exact rfl | decide +kernel) (by first | exact rfl | decide +kernel), lw_gi 1102 (by first | exact rfl | decide +kernel) (by first | exact rfl | decide +kernel), rfl, by decide⟩
set_option maxRecDepth 100000 in
theorem hk_151 : pm_hk 0 m_151 := ⟨⟨lw_gi 1107 rfl rfl, hi_10, hc_10, hv_10, hp_6⟩, lw_gi 1105 (by first | exact rfl | decide +kernel) (by first | exact rfl | decide +kernel), lw_gi 1106 (by first | exact rfl | decide +kernel) (by first | exact rfl | decide +kernel), rfl, by decide⟩
set_option maxRecDepth 100000 in
theorem hk_152 : pm_hk 0 m_152 := ⟨⟨lw_gi 1111 rfl rfl, hi_10, hc_10, hv_10, hp_0⟩, lw_gi 1110 (by first | exact rfl | decide +kernel) (by first | exact rfl | decide +kernel), lw_gi 28 (by first | exact rfl | decide +kernel) (by first | exact rfl | decide +kernel), rfl, by decide⟩
set_option maxRecDepth 100000 in
theorem hk_153 : pm_hk 0 m_153 := ⟨⟨lw_gi 1115 rfl rfl, hi_10, hc_10, hv_10, hp_4⟩, lw_gi 1114 (by first | exact rfl | decide +kernel) (by first | exact rfl | decide +kernel), lw_gi 29 (by first | exact rfl | decide +kernel) (by first | exact rfl | decide +kernel), rfl, by decide⟩
set_option maxRecDepth 100000 in
theorem hk_154 : pm_hk 0 m_154 := ⟨⟨lw_gi 1123 rfl rfl, hi_10, hc_10, hv_10, hp_35⟩, lw_gi 1122 (by first | exact rfl | decide +kernel) (by first | exact rfl | decide +kernel), lw_gi 30 (by first | exact rfl | decide +kernel) (by first | exact rfl | decide +kernel), rfl, by decide⟩
set_option maxRecDepth 100000 in
theorem hk_155 : pm_hk 0 m_155 := ⟨⟨lw_gi 1127 rfl rfl, hi_10, hc_10, hv_10, hp_0⟩, lw_gi 1126 (by first | exact rfl | decide +kernel) (by first | exact rfl | decide +kernel), lw_gi 31 (by first | exact rfl | decide +kernel) (by first | exact rfl | decide +kernel), rfl, by decide⟩
set_option maxRecDepth 100000 in
theorem hk_156 : pm_hk 0 m_156 := ⟨⟨lw_gi 1131 rfl rfl, hi_10, hc_10, hv_10, hp_6⟩, lw_gi 1130 (by first | exact rfl | decide +kernel) (by first | exact rfl | decide +kernel), lw_gi 32 (by first | exact rfl | decide +kernel) (by first | exact rfl | decide +kernel), rfl, by decide⟩
set_option maxRecDepth 100000 in
theorem hk_157 : pm_hk 0 m_157 := ⟨⟨lw_gi 1135 rfl rfl, hi_10, hc_10, hv_10, hp_36⟩, lw_gi 1134 (by first | exact rfl | decide +kernel) (by first | exact rfl | decide +kernel), lw_gi 33 (by first | exact rfl | decide +kernel) (by first | exact rfl | decide +kernel), rfl, by decide⟩
set_option maxRecDepth 100000 in
theorem hk_158 : pm_hk 0 m_158 := ⟨⟨lw_gi 1139 rfl rfl, hi_10, hc_10, hv_10, hp_36⟩, lw_gi 1138 (by first | exact rfl | decide +kernel) (by first | exact rfl | decide +kernel), lw_gi 34 (by first | exact rfl | decide +kernel) (by first | exact rfl | decide +kernel), rfl, by decide⟩
set_option maxRecDepth 100000 in
theorem hk_159 : pm_hk 0 m_159 := ⟨⟨lw_gi 1143 rfl rfl, hi_10, hc_10, hv_10, hp_11⟩, lw_gi 1142 (by first | exact rfl | decide +kernel) (by first | exact rfl | decide +kernel), lw_gi 35 (by first | exact rfl | decide +kernel) (by first | exact rfl | decide +kernel), rfl, by decide⟩
set_option maxRecDepth 100000 in
theorem hk_160 : pm_hk 0 m_160 := ⟨⟨lw_gi 1147 rfl rfl, hi_10, hc_10, hv_10, hp_10⟩, lw_gi 1146 (by first | exact rfl | decide +kernel) (by first | exact rfl | decide +kernel), lw_gi 36 (by first | exact rfl | decide +kernel) (by first | exact rfl | decide +kernel), rfl, by decide⟩
set_option maxRecDepth 100000 in
theorem hk_161 : pm_hk 0 m_161 := ⟨⟨lw_gi 1151 rfl rfl, hi_10, hc_10, hv_10, hp_10⟩, lw_gi 1150 (by first | exact rfl | decide +kernel) (by first | exact rfl | decide +kernel), lw_gi 37 (by first | exact rfl | decide +kernel) (by first | exact rfl | decide +kernel), rfl, by decide⟩
set_option maxRecDepth 100000 in
theorem hk_162 : pm_hk 0 m_162 := ⟨⟨lw_gi 1155 rfl rfl, hi_10, hc_10, hv_10, hp_6⟩, lw_gi 1154 (by first | exact rfl | decide +kernel) (by first | exact rfl | decide +kernel), lw_gi 38 (by first | exact rfl | decide +kernel) (by first | exact rfl | decide +kernel), rfl, by decide⟩
set_option maxRecDepth 100000 in
theorem hk_163 : pm_hk 0 m_163 := ⟨⟨lw_gi 1159 rfl rfl, hi_10, hc_10, hv_10, hp_0⟩, lw_gi 1158 (by first | exact rfl | decide +kernel) (by first | exact rfl | decide +kernel), lw_gi 39 (by first | exact rfl | decide +kernel) (by first | exact rfl | decide +kernel), rfl, by decide⟩
set_option maxRecDepth 100000 in
theorem hk_164 : pm_hk 2 m_164 := ⟨⟨lw_gi 1162 rfl rfl, hi_10, hc_10, hv_10, hp_37⟩, lw_gi 1161 (by first | exact rfl | decide +kernel) (by first | exact rfl | decide +kernel)⟩
set_option maxRecDepth 100000 in
theorem hk_165 : pm_hk 0 m_165 := ⟨⟨lw_gi 1166 rfl rfl, hi_10, hc_10, hv_10, hp_11⟩, lw_gi 1165 (by first | exact rfl | decide +kernel) (by first | exact rfl | decide +kernel), lw_gi 40 (by first | exact rfl | decide +kernel) (by first | exact rfl | decide +kernel), rfl, by decide⟩
set_option maxRecDepth 100000 in
theorem hk_166 : pm_hk 0 m_166 := ⟨⟨lw_gi 1170 rfl rfl, hi_10, hc_10, hv_10, hp_6⟩, lw_gi 1168 (by first | exact rfl | decide +kernel) (by first | exact rfl | decide +kernel), lw_gi 1169 (by first | exact rfl | decide +kernel) (by first | exact rfl | decide +kernel), rfl, by decide⟩
set_option maxRecDepth 100000 in
theorem hk_167 : pm_hk 0 m_167 := ⟨⟨lw_gi 1174 rfl rfl, hi_10, hc_10, hv_10, hp_4⟩, lw_gi 1172 (by first | exact rfl | decide +kernel) (by first | exact rfl | decide +kernel), lw_gi 1173 (by first | exact rfl | decide +kernel) (by first | exact rfl | decide +kernel), rfl, by decide⟩
set_option maxRecDepth 100000 in
theorem hk_168 : pm_hk 0 m_168 := ⟨⟨lw_gi 1179 rfl rfl, hi_10, hc_10, hv_10, hp_10⟩, lw_gi 1177 (by first | exact rfl | decide +kernel) (by first | exact rfl | decide +kernel), lw_gi 1178 (by first | exact rfl | decide +kernel) (by first | exact rfl | decide +kernel), rfl, by decide⟩
set_option maxRecDepth 100000 in
theorem hk_169 : pm_hk 0 m_169 := ⟨⟨lw_gi 1183 rfl rfl, hi_10, hc_10, hv_10, hp_5⟩, lw_gi 1182 (by first | exact rfl | decide +kernel) (by first | exact rfl | decide +kernel), lw_gi 41 (by first | exact rfl | decide +kernel) (by first | exact rfl | decide +kernel), rfl, by decide⟩
set_option maxRecDepth 100000 in
theorem hk_170 : pm_hk 0 m_170 := ⟨⟨lw_gi 1188 rfl rfl, hi_10, hc_10, hv_10, hp_4⟩, lw_gi 1186 (by first | exact rfl | decide +kernel) (by first | exact rfl | decide +kernel), lw_gi 1187 (by first | exact rfl | decide +kernel) (by first | exact rfl | decide +kernel), rfl, by decide⟩
set_option maxRecDepth 100000 in
theorem hk_171 : pm_hk 0 m_171 := ⟨⟨lw_gi 1192 rfl rfl, hi_10, hc_10, hv_10, hp_5⟩, lw_gi 1191 (by first | exact rfl | decide +kernel) (by first | exact rfl | decide +kernel), lw_gi 42 (by first | exact rfl | decide +kernel) (by first | exact rfl | decide +kernel), rfl, by decide⟩
set_option maxRecDepth 100000 in
theorem hk_172 : pm_hk 0 m_172 := ⟨⟨lw_gi 1196 rfl rfl, hi_10, hc_10, hv_10, hp_0⟩, lw_gi 1195 (by first | exact rfl | decide +kernel) (by first | exact rfl | decide +kernel), lw_gi 43 (by first | exact rfl | decide +kernel) (by first | exact rfl | decide +kernel), rfl, by decide⟩
set_option maxRecDepth 100000 in
theorem hk_173 : pm_hk 0 m_173 := ⟨⟨lw_gi 1200 rfl rfl, hi_10, hc_10, hv_10, hp_4⟩, lw_gi 1199 (by first | exact rfl | decide +kernel) (by first | exact rfl | decide +kernel), lw_gi 44 (by first | exact rfl | decide +kernel) (by first | exact rfl | decide +kernel), rfl, by decide⟩
set_option maxRecDepth 100000 in
theorem hk_174 : pm_hk 0 m_174 := ⟨⟨lw_gi 1204 rfl rfl, hi_10, hc_10, hv_10, hp_10⟩, lw_gi 1202 (by first | exact rfl | decide +kernel) (by first | exact rfl | decide +kernel), lw_gi 1203 (by first | exact rfl | decide +kernel) (by first | exact rfl | decide +kernel), rfl, by decide⟩
set_option maxRecDepth 100000 in
theorem hk_175 : pm_hk 0 m_175 := ⟨⟨lw_gi 1208 rfl rfl, hi_10, hc_10, hv_10, hp_10⟩, lw_gi 1207 (by first | exact rfl | decide +kernel) (by first | exact rfl | decide +kernel), lw_gi 45 (by first | exact rfl | decide +kernel) (by first | exact rfl | decide +kernel), rfl, by decide⟩
set_option maxRecDepth 100000 in
theorem hk_176 : pm_hk 0 m_176 := ⟨⟨lw_gi 1212 rfl rfl, hi_10, hc_10, hv_10, hp_10⟩, lw_gi 1210 (by first | exact rfl | decide +kernel) (by first | exact rfl | decide +kernel), lw_gi 1211 (by first | exact rfl | decide +kernel) (by first | exact rfl | decide +kernel), rfl, by decide⟩
set_option maxRecDepth 100000 in
theorem hk_177 : pm_hk 0 m_177 := ⟨⟨lw_gi 1216 rfl rfl, hi_10, hc_10, hv_10, hp_5⟩, lw_gi 1215 (by first | exact rfl | decide +kernel) (by first | exact rfl | decide +kernel), lw_gi 46 (by first | exact rfl | decide +kernel) (by first | exact rfl | decide +kernel), rfl, by decide⟩
set_option maxRecDepth 100000 in
theorem hk_178 : pm_hk 0 m_178 := ⟨⟨lw_gi 1220 rfl rfl, hi_10, hc_10, hv_10, hp_16⟩, lw_gi 1218 (by first | exact rfl | decide +kernel) (by first | exact rfl | decide +kernel), lw_gi 1219 (by first | exact rfl | decide +kernel) (by first | exact rfl | decide +kernel), rfl, by decide⟩
set_option maxRecDepth 100000 in
theorem hk_179 : pm_hk 0 m_179 := ⟨⟨lw_gi 1224 rfl rfl, hi_10, hc_10, hv_10, hp_10⟩, lw_gi 1222 (by first | exact rfl | decide +kernel) (by first | exact rfl | decide +kernel), lw_gi 1223 (by first | exact rfl | decide +kernel) (by first | exact rfl | decide +kernel), rfl, by decide⟩
set_option maxRecDepth 100000 in
theorem hk_180 : pm_hk 0 m_180 := ⟨⟨lw_gi 1228 rfl rfl, hi_10, hc_10, hv_10, hp_16⟩, lw_gi 1226 (by first | exact rfl | decide +kernel) (by first | exact rfl | decide +kernel), lw_gi 1227 (by first | exact rfl | decide +kernel) (by first | exact rfl | decide +kernel), rfl, by decide⟩
set_option maxRecDepth 100000 in
theorem hk_181 : pm_hk 0 m_181 := ⟨⟨lw_gi 1232 rfl rfl, hi_10, hc_10, hv_10, hp_10⟩, lw_gi 1230 (by first | exact rfl | decide +kernel) (by first | exact rfl | decide +kernel), lw_gi 1231 (by first | exact rfl | decide +kernel) (by first | exact rfl | decide +kernel), rfl, by decide⟩
set_option maxRecDepth 100000 in
theorem hk_182 : pm_hk 0 m_182 := ⟨⟨lw_gi 1237 rfl rfl, hi_10, hc_10, hv_10, hp_4⟩, lw_gi 1235 (by first | exact rfl | decide +kernel) (by first | exact rfl | decide +kernel), lw_gi 1236 (by first | exact rfl | decide +kernel) (by first | exact rfl | decide +kernel), rfl, by decide⟩
set_option maxRecDepth 100000 in
theorem hk_183 : pm_hk 0 m_183 := ⟨⟨lw_gi 1241 rfl rfl, hi_10, hc_10, hv_10, hp_10⟩, lw_gi 1239 (by first | exact rfl | decide +kernel) (by first | exact rfl | decide +kernel), lw_gi 1240 (by first | exact rfl | decide +kernel) (by first | exact rfl | decide +kernel), rfl, by decide⟩
set_option maxRecDepth 100000 in
theorem hk_184 : pm_hk 0 m_184 := ⟨⟨lw_gi 1245 rfl rfl, hi_10, hc_10, hv_10, hp_16⟩, lw_gi 1244 (by first | exact rfl | decide +kernel) (by first | exact rfl | decide +kernel), lw_gi 47 (by first | exact rfl | decide +kernel) (by first | exact rfl | decide +kernel), rfl, by decide⟩
set_option maxRecDepth 100000 in
theorem hk_185 : pm_hk 0 m_185 := ⟨⟨lw_gi 1249 rfl rfl, hi_10, hc_10, hv_10, hp_10⟩, lw_gi 1248 (by first | exact rfl | decide +kernel) (by first | exact rfl | decide +kernel), lw_gi 48 (by first | exact rfl | decide +kernel) (by first | exact rfl | decide +kernel), rfl, by decide⟩
set_option maxRecDepth 100000 in
theorem hk_186 : pm_hk 2 m_186 := ⟨⟨lw_gi 1252 rfl rfl, hi_10, hc_10, hv_10, hp_4⟩, lw_gi 1251 (by first | exact rfl | decide +kernel) (by first | exact rfl | decide +kernel)⟩
set_option maxRecDepth 100000 in
theorem hk_187 : pm_hk 2 m_187 := ⟨⟨lw_gi 1255 rfl rfl, hi_10, hc_10, hv_10, hp_4⟩, lw_gi 1254 (by first | exact rfl | decide +kernel) (by first | exact rfl | decide +kernel)⟩
set_option maxRecDepth 100000 in
theorem hk_188 : pm_hk 0 m_188 := ⟨⟨lw_gi 1259 rfl rfl, hi_10, hc_10, hv_10, hp_4⟩, lw_gi 1257 (by first | exact rfl | decide +kernel) (by first | exact rfl | decide +kernel), lw_gi 1258 (by first | exact rfl | decide +kernel) (by first | exact rfl | decide +kernel), rfl, by decide⟩
set_option maxRecDepth 100000 in
theorem hk_189 : pm_hk 0 m_189 := ⟨⟨lw_gi 1263 rfl rfl, hi_10, hc_10, hv_10, hp_4⟩, lw_gi 1262 (by first | exact rfl | decide +kernel) (by first | exact rfl | decide +kernel), lw_gi 49 (by first | exact rfl | decide +kernel) (by first | exact rfl | decide +kernel), rfl, by decide⟩
set_option maxRecDepth 100000 in
theorem hk_190 : pm_hk 0 m_190 := ⟨⟨lw_gi 1267 rfl rfl, hi_10, hc_10, hv_10, hp_6⟩, lw_gi 1265 (by first | exact rfl | decide +kernel) (by first | exact rfl | decide +kernel), lw_gi 1266 (by first | exact rfl | decide +kernel) (by first | exact rfl | decide +kernel), rfl, by decide⟩
set_option maxRecDepth 100000 in
theorem hk_191 : pm_hk 0 m_191 := ⟨⟨lw_gi 1271 rfl rfl, hi_10, hc_10, hv_10, hp_13⟩, lw_gi 1270 (by first | exact rfl | decide +kernel) (by first | exact rfl | decide +kernel), lw_gi 50 (by first | exact rfl | decide +kernel) (by first | exact rfl | decide +kernel), rfl, by decide⟩
set_option maxRecDepth 100000 in
theorem hk_192 : pm_hk 0 m_192 := ⟨⟨lw_gi 1275 rfl rfl, hi_10, hc_10, hv_10, hp_10⟩, lw_gi 1274 (by first | exact rfl | decide +kernel) (by first | exact rfl | decide +kernel), lw_gi 51 (by first | exact rfl | decide +kernel) (by first | exact rfl | decide +kernel), rfl, by decide⟩
set_option maxRecDepth 100000 in
theorem hk_193 : pm_hk 0 m_193 := ⟨⟨lw_gi 1279 rfl rfl, hi_10, hc_10, hv_10, hp_5⟩, lw_gi 1278 (by first | exact rfl | decide +kernel) (by first | exact rfl | decide +kernel), lw_gi 52 (by first | exact rfl | decide +kernel) (by first | exact rfl | decide +kernel), rfl, by decide⟩
set_option maxRecDepth 100000 in
theorem hk_194 : pm_hk 2 m_194 := ⟨⟨lw_gi 1282 rfl rfl, hi_10, hc_10, hv_10, hp_4⟩, lw_gi 1281 (by first | exact rfl | decide +kernel) (by first | exact rfl | decide +kernel)⟩
set_option maxRecDepth 100000 in
theorem hk_195 : pm_hk 0 m_195 := ⟨⟨lw_gi 1286 rfl rfl, hi_10, hc_10, hv_10, hp_6⟩, lw_gi 1284 (by first | exact rfl | decide +kernel) (by first | exact rfl | decide +kernel), lw_gi 1285 (by first | exact rfl | decide +kernel) (by first | exact rfl | decide +kernel), rfl, by decide⟩
set_option maxRecDepth 100000 in
theorem hk_196 : pm_hk 0 m_196 := ⟨⟨lw_gi 1290 rfl rfl, hi_10, hc_10, hv_10, hp_4⟩, lw_gi 1288 (by first | exact rfl | decide +kernel) (by first | exact rfl | decide +kernel), lw_gi 1289 (by first | exact rfl | decide +kernel) (by first | exact rfl | decide +kernel), rfl, by decide⟩
set_option maxRecDepth 100000 in
theorem hk_197 : pm_hk 0 m_197 := ⟨⟨lw_gi 1295 rfl rfl, hi_10, hc_10, hv_10, hp_6⟩, lw_gi 1294 (by first | exact rfl | decide +kernel) (by first | exact rfl | decide +kernel), lw_gi 53 (by first | exact rfl | decide +kernel) (by first | exact rfl | decide +kernel), rfl, by decide⟩
set_option maxRecDepth 100000 in
theorem hk_198 : pm_hk 0 m_198 := ⟨⟨lw_gi 1299 rfl rfl, hi_10, hc_10, hv_10, hp_20⟩, lw_gi 1297 (by first | exact rfl | decide +kernel) (by first | exact rfl | decide +kernel), lw_gi 1298 (by first | exact rfl | decide +kernel) (by first | exact rfl | decide +kernel), rfl, by decide⟩
set_option maxRecDepth 100000 in
theorem hk_199 : pm_hk 0 m_199 := ⟨⟨lw_gi 1303 rfl rfl, hi_10, hc_10, hv_10, hp_6⟩, lw_gi 1301 (by first | exact rfl | decide +kernel) (by first | exact rfl | decide +kernel), lw_gi 1302 (by first | exact rfl | decide +kernel) (by first | exact rfl | decide +kernel), rfl, by decide⟩
set_option maxRecDepth 100000 in
theorem hk_200 : pm_hk 0 m_200 := ⟨⟨lw_gi 1307 rfl rfl, hi_10, hc_10, hv_10, hp_4⟩, lw_gi 1305 (by first | exact rfl | decide +kernel) (by first | exact rfl | decide +kernel), lw_gi 1306 (by first | exact rfl | decide +kernel) (by first | exact rfl | decide +kernel), rfl, by decide⟩
set_option maxRecDepth 100000 in
theorem hk_201 : pm_hk 0 m_201 := ⟨⟨lw_gi 1311 rfl rfl, hi_10, hc_10, hv_10, hp_10⟩, lw_gi 1309 (by first | exact rfl | decide +kernel) (by first | exact rfl | decide +kernel), lw_gi 1310 (by first | exact rfl | decide +kernel) (by first | exact rfl | decide +kernel), rfl, by decide⟩
set_option maxRecDepth 100000 in
theorem hk_202 : pm_hk 2 m_202 := ⟨⟨lw_gi 1316 rfl rfl, hi_10, hc_10, hv_10, hp_4⟩, lw_gi 1315 (by first | exact rfl | decide +kernel) (by first | exact rfl | decide +kernel)⟩
set_option maxRecDepth 100000 in
theorem hk_203 : pm_hk 0 m_203 := ⟨⟨lw_gi 1320 rfl rfl, hi_10, hc_10, hv_10, hp_10⟩, lw_gi 1319 (by first | exact rfl | decide +kernel) (by first | exact rfl | decide +kernel), lw_gi 54 (by first | exact rfl | decide +kernel) (by first | exact rfl | decide +kernel), rfl, by decide⟩
set_option maxRecDepth 100000 in
theorem hk_204 : pm_hk 0 m_204 := ⟨⟨lw_gi 1324 rfl rfl, hi_10, hc_10, hv_10, hp_5⟩, lw_gi 1323 (by first | exact rfl | decide +kernel) (by first | exact rfl | decide +kernel), lw_gi 55 (by first | exact rfl | decide +kernel) (by first | exact rfl | decide +kernel), rfl, by decide⟩
set_option maxRecDepth 100000 in
theorem hk_205 : pm_hk 0 m_205 := ⟨⟨lw_gi 1328 rfl rfl, hi_10, hc_10, hv_10, hp_6⟩, lw_gi 1327 (by first | exact rfl | decide +kernel) (by first | exact rfl | decide +kernel), lw_gi 56 (by first | exact rfl | decide +kernel) (by first | exact rfl | decide +kernel), rfl, by decide⟩
set_option maxRecDepth 100000 in
theorem hk_206 : pm_hk 0 m_206 := ⟨⟨lw_gi 1332 rfl rfl, hi_10, hc_10, hv_10, hp_6⟩, lw_gi 1330 (by first | exact rfl | decide +kernel) (by first | exact rfl | decide +kernel), lw_gi 1331 (by first | exact rfl | decide +kernel) (by first | exact rfl | decide +kernel), rfl, by decide⟩
set_option maxRecDepth 100000 in
theorem hk_207 : pm_hk 0 m_207 := ⟨⟨lw_gi 1336 rfl rfl, hi_10, hc_10, hv_10, hp_4⟩, lw_gi 1334 (by first | exact rfl | decide +kernel) (by first | exact rfl | decide +kernel), lw_gi 1335 (by first | exact rfl | decide +kernel) (by first | exact rfl | decide +kernel), rfl, by decide⟩
set_option maxRecDepth 100000 in
theorem hk_208 : pm_hk 0 m_208 := ⟨⟨lw_gi 1340 rfl rfl, hi_10, hc_10, hv_10, hp_25⟩, lw_gi 1338 (by first | exact rfl | decide +kernel) (by first | exact rfl | decide +kernel), lw_gi 1339 (by first | exact rfl | decide +kernel) (by first | exact rfl | decide +kernel), rfl, by decide⟩
set_option maxRecDepth 100000 in
theorem hk_209 : pm_hk 0 m_209 := ⟨⟨lw_gi 1346 rfl rfl, hi_10, hc_10, hv_10, hp_20⟩, lw_gi 1344 (by first | exact rfl | decide +kernel) (by first | exact rfl | decide +kernel), lw_gi 1345 (by first | exact rfl | decide +kernel) (by first | exact rfl | decide +kernel), rfl, by decide⟩
set_option maxRecDepth 100000 in
theorem hk_210 : pm_hk 0 m_210 := ⟨⟨lw_gi 1350 rfl rfl, hi_10, hc_10, hv_10, hp_29⟩, lw_gi 1348 (by first | exact rfl | decide +kernel) (by first | exact rfl | decide +kernel), lw_gi 1349 (by first | exact rfl | decide +kernel) (by first | exact rfl | decide +kernel), rfl, by decide⟩
set_option maxRecDepth 100000 in
theorem hk_211 : pm_hk 2 m_211 := ⟨⟨lw_gi 1354 rfl rfl, hi_10, hc_10, hv_10, hp_31⟩, lw_gi 1353 (by first | exact rfl | decide +kernel) (by first | exact rfl | decide +kernel)⟩
set_option maxRecDepth 100000 in
theorem hk_212 : pm_hk 0 m_212 := ⟨⟨lw_gi 1358 rfl rfl, hi_10, hc_10, hv_10, hp_10⟩, lw_gi 1356 (by first | exact rfl | decide +kernel) (by first | exact rfl | decide +kernel), lw_gi 1357 (by first | exact rfl | decide +kernel) (by first | exact rfl | decide +kernel), rfl, by decide⟩
set_option maxRecDepth 100000 in
theorem hk_213 : pm_hk 0 m_213 := ⟨⟨lw_gi 1362 rfl rfl, hi_10, hc_10, hv_10, hp_4⟩, lw_gi 1360 (by first | exact rfl | decide +kernel) (by first | exact rfl | decide +kernel), lw_gi 1361 (by first | exact rfl | decide +kernel) (by first | exact rfl | decide +kernel), rfl, by decide⟩
set_option maxRecDepth 100000 in
theorem hk_214 : pm_hk 0 m_214 := ⟨⟨lw_gi 1366 rfl rfl, hi_10, hc_10, hv_10, hp_4⟩, lw_gi 1364 (by first | exact rfl | decide +kernel) (by first | exact rfl | decide +kernel), lw_gi 1365 (by first | exact rfl | decide +kernel) (by first | exact rfl | decide +kernel), rfl, by decide⟩
set_option maxRecDepth 100000 in
theorem hk_215 : pm_hk 0 m_215 := ⟨⟨lw_gi 1370 rfl rfl, hi_10, hc_10, hv_10, hp_10⟩, lw_gi 1368 (by first | exact rfl | decide +kernel) (by first | exact rfl | decide +kernel), lw_gi 1369 (by first | exact rfl | decide +kernel) (by first | exact rfl | decide +kernel), rfl, by decide⟩
set_option maxRecDepth 100000 in
theorem hk_216 : pm_hk 0 m_216 := ⟨⟨lw_gi 1375 rfl rfl, hi_10, hc_10, hv_10, hp_4⟩, lw_gi 1373 (by first | exact rfl | decide +kernel) (by first | exact rfl | decide +kernel), lw_gi 1374 (by first | exact rfl | decide +kernel) (by first | exact rfl | decide +kernel), rfl, by decide⟩
set_option maxRecDepth 100000 in
theorem hk_217 : pm_hk 0 m_217 := ⟨⟨lw_gi 1379 rfl rfl, hi_10, hc_10, hv_10, hp_7⟩, lw_gi 1378 (by first | exact rfl | decide +kernel) (by first | exact rfl | decide +kernel), lw_gi 57 (by first | exact rfl | decide +kernel) (by first | exact rfl | decide +kernel), rfl, by decide⟩
set_option maxRecDepth 100000 in
theorem hk_218 : pm_hk 0 m_218 := ⟨⟨lw_gi 1383 rfl rfl, hi_10, hc_10, hv_10, hp_4⟩, lw_gi 1381 (by first | exact rfl | decide +kernel) (by first | exact rfl | decide +kernel), lw_gi 1382 (by first | exact rfl | decide +kernel) (by first | exact rfl | decide +kernel), rfl, by decide⟩
set_option maxRecDepth 100000 in
theorem hk_219 : pm_hk 0 m_219 := ⟨⟨lw_gi 1387 rfl rfl, hi_10, hc_10, hv_10, hp_20⟩, lw_gi 1385 (by first | exact rfl | decide +kernel) (by first | exact rfl | decide +kernel), lw_gi 1386 (by first | exact rfl | decide +kernel) (by first | exact rfl | decide +kernel), rfl, by decide⟩
set_option maxRecDepth 100000 in
theorem hk_220 : pm_hk 2 m_220 := ⟨⟨lw_gi 1390 rfl rfl, hi_10, hc_10, hv_10, hp_15⟩, lw_gi 1389 (by first | exact rfl | decide +kernel) (by first | exact rfl | decide +kernel)⟩
set_option maxRecDepth 100000 in
theorem hk_221 : pm_hk 0 m_221 := ⟨⟨lw_gi 1395 rfl rfl, hi_10, hc_10, hv_10, hp_20⟩, lw_gi 1393 (by first | exact rfl | decide +kernel) (by first | exact rfl | decide +kernel), lw_gi 1394 (by first | exact rfl | decide +kernel) (by first | exact rfl | decide +kernel), rfl, by decide⟩
set_option maxRecDepth 100000 in
theorem hk_222 : pm_hk 0 m_222 := ⟨⟨lw_gi 1399 rfl rfl, hi_10, hc_10, hv_10, hp_25⟩, lw_gi 1397 (by first | exact rfl | decide +kernel) (by first | exact rfl | decide +kernel), lw_gi 1398 (by first | exact rfl | decide +kernel) (by first | exact rfl | decide +kernel), rfl, by decide⟩
set_option maxRecDepth 100000 in
theorem hk_223 : pm_hk 0 m_223 := ⟨⟨lw_gi 1405 rfl rfl, hi_10, hc_10, hv_10, hp_6⟩, lw_gi 1403 (by first | exact rfl | decide +kernel) (by first | exact rfl | decide +kernel), lw_gi 1404 (by first | exact rfl | decide +kernel) (by first | exact rfl | decide +kernel), rfl, by decide⟩
set_option maxRecDepth 100000 in
theorem hk_224 : pm_hk 0 m_224 := ⟨⟨lw_gi 1409 rfl rfl, hi_10, hc_10, hv_10, hp_4⟩, lw_gi 1407 (by first | exact rfl | decide +kernel) (by first | exact rfl | decide +kernel), lw_gi 1408 (by first | exact rfl | decide +kernel) (by first | exact rfl | decide +kernel), rfl, by decide⟩
