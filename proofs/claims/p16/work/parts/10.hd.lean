/-! THE METHODS: their heads and links, by the places of the words (printed by wip/gen/gen10.py). -/
def pm_hk (kind : Nat) (m2 : pm_M) : Prop := match kind with
  | 0 => pm_hd m2 (pm_n m2 - 1) ∧ Cond.instanceMethod (pm_y m2) ∈ lw_gt ∧ Cond.selects (pm_y m2).cls (pm_y m2) (pm_y m2) ∈ lw_gt ∧ kN (pm_o m2) = (pm_y m2).cls ∧ pm_o m2 < 8
  | 1 => pm_hd m2 (pm_n m2 - 1) ∧ Cond.instanceMethod (pm_y m2) ∈ lw_gt ∧ (pm_y m2).name = "<init>" ∧ pm_rt m2 = none
  | _ => pm_hd m2 (pm_n m2) ∧ Cond.static (pm_y m2) ∈ lw_gt
theorem lw_gd {w : Cond} (d i : Nat) (h : (lw_tbl.drop d)[i]? = some w) (hg : goodWord w = true) : w ∈ lw_gt := lw_gi (d + i) (by rw [← List.getElem?_drop]; exact h) hg
set_option maxRecDepth 100000 in
theorem hi_0 : Cond.initialized "MoodTown" ∈ lw_gt := lw_gd 0 59 rfl rfl
theorem hc_0 : "MoodTown" ≠ "java/lang/invoke/MethodHandle" := by decide +kernel
theorem hv_0 : "MoodTown" ≠ "java/lang/invoke/VarHandle" := by decide +kernel
theorem hp_0 : (parseMethodDescriptor "()V").map (fun d => d.parameters.length) = some 0 := by decide +kernel
set_option maxRecDepth 100000 in
theorem hi_1 : Cond.initialized "MoodTown$Tape" ∈ lw_gt := lw_gd 0 60 rfl rfl
theorem hc_1 : "MoodTown$Tape" ≠ "java/lang/invoke/MethodHandle" := by decide +kernel
theorem hv_1 : "MoodTown$Tape" ≠ "java/lang/invoke/VarHandle" := by decide +kernel
set_option maxRecDepth 100000 in
theorem hi_2 : Cond.initialized "MoodTown$Telling" ∈ lw_gt := lw_gd 0 61 rfl rfl
theorem hc_2 : "MoodTown$Telling" ≠ "java/lang/invoke/MethodHandle" := by decide +kernel
theorem hv_2 : "MoodTown$Telling" ≠ "java/lang/invoke/VarHandle" := by decide +kernel
theorem hp_1 : (parseMethodDescriptor "(LMoodTown$Tape;)V").map (fun d => d.parameters.length) = some 1 := by decide +kernel
set_option maxRecDepth 100000 in
theorem hi_3 : Cond.initialized "MoodTown$Town" ∈ lw_gt := lw_gd 0 62 rfl rfl
theorem hc_3 : "MoodTown$Town" ≠ "java/lang/invoke/MethodHandle" := by decide +kernel
theorem hv_3 : "MoodTown$Town" ≠ "java/lang/invoke/VarHandle" := by decide +kernel
set_option maxRecDepth 100000 in
theorem hi_4 : Cond.initialized "java/util/Arrays" ∈ lw_gt := lw_gd 0 63 rfl rfl
theorem hc_4 : "java/util/Arrays" ≠ "java/lang/invoke/MethodHandle" := by decide +kernel
theorem hv_4 : "java/util/Arrays" ≠ "java/lang/invoke/VarHandle" := by decide +kernel
theorem hp_2 : (parseMethodDescriptor "([II)V").map (fun d => d.parameters.length) = some 2 := by decide +kernel
set_option maxRecDepth 100000 in
theorem hi_5 : Cond.initialized "MoodTown$Walk" ∈ lw_gt := lw_gd 64 0 rfl rfl
theorem hc_5 : "MoodTown$Walk" ≠ "java/lang/invoke/MethodHandle" := by decide +kernel
theorem hv_5 : "MoodTown$Walk" ≠ "java/lang/invoke/VarHandle" := by decide +kernel
set_option maxRecDepth 100000 in
theorem hi_6 : Cond.initialized "MoodTown$Search" ∈ lw_gt := lw_gd 64 1 rfl rfl
theorem hc_6 : "MoodTown$Search" ≠ "java/lang/invoke/MethodHandle" := by decide +kernel
theorem hv_6 : "MoodTown$Search" ≠ "java/lang/invoke/VarHandle" := by decide +kernel
theorem hp_3 : (parseMethodDescriptor "(LMoodTown$Walk;)V").map (fun d => d.parameters.length) = some 1 := by decide +kernel
set_option maxRecDepth 100000 in
theorem hi_7 : Cond.initialized "MoodTown$Sheet" ∈ lw_gt := lw_gd 64 2 rfl rfl
theorem hc_7 : "MoodTown$Sheet" ≠ "java/lang/invoke/MethodHandle" := by decide +kernel
theorem hv_7 : "MoodTown$Sheet" ≠ "java/lang/invoke/VarHandle" := by decide +kernel
theorem hp_4 : (parseMethodDescriptor "(I)I").map (fun d => d.parameters.length) = some 1 := by decide +kernel
theorem hp_5 : (parseMethodDescriptor "(I)Z").map (fun d => d.parameters.length) = some 1 := by decide +kernel
theorem hp_6 : (parseMethodDescriptor "()I").map (fun d => d.parameters.length) = some 0 := by decide +kernel
theorem hp_7 : (parseMethodDescriptor "(II)V").map (fun d => d.parameters.length) = some 2 := by decide +kernel
theorem hp_8 : (parseMethodDescriptor "(Ljava/lang/String;)Z").map (fun d => d.parameters.length) = some 1 := by decide +kernel
theorem hp_9 : (parseMethodDescriptor "(Z)V").map (fun d => d.parameters.length) = some 1 := by decide +kernel
theorem hp_10 : (parseMethodDescriptor "(II)I").map (fun d => d.parameters.length) = some 2 := by decide +kernel
theorem hp_11 : (parseMethodDescriptor "(I)V").map (fun d => d.parameters.length) = some 1 := by decide +kernel
theorem hp_12 : (parseMethodDescriptor "(III)V").map (fun d => d.parameters.length) = some 3 := by decide +kernel
theorem hp_13 : (parseMethodDescriptor "()Z").map (fun d => d.parameters.length) = some 0 := by decide +kernel
theorem hp_14 : (parseMethodDescriptor "(LMoodTown$Town;)V").map (fun d => d.parameters.length) = some 1 := by decide +kernel
theorem hp_15 : (parseMethodDescriptor "(II)Z").map (fun d => d.parameters.length) = some 2 := by decide +kernel
theorem hp_16 : (parseMethodDescriptor "(IZ)I").map (fun d => d.parameters.length) = some 2 := by decide +kernel
theorem hp_17 : (parseMethodDescriptor "(LMoodTown$Town;II)V").map (fun d => d.parameters.length) = some 3 := by decide +kernel
set_option maxRecDepth 100000 in
theorem hi_8 : Cond.initialized "java/lang/Math" ∈ lw_gt := lw_gd 64 9 rfl rfl
theorem hc_8 : "java/lang/Math" ≠ "java/lang/invoke/MethodHandle" := by decide +kernel
theorem hv_8 : "java/lang/Math" ≠ "java/lang/invoke/VarHandle" := by decide +kernel
set_option maxRecDepth 100000 in
theorem hi_9 : Cond.initialized "java/lang/Integer" ∈ lw_gt := lw_gd 64 10 rfl rfl
theorem hc_9 : "java/lang/Integer" ≠ "java/lang/invoke/MethodHandle" := by decide +kernel
theorem hv_9 : "java/lang/Integer" ≠ "java/lang/invoke/VarHandle" := by decide +kernel
theorem hp_18 : (parseMethodDescriptor "(LMoodTown$Town;)I").map (fun d => d.parameters.length) = some 1 := by decide +kernel
theorem hp_19 : (parseMethodDescriptor "(LMoodTown$Town;I)V").map (fun d => d.parameters.length) = some 2 := by decide +kernel
theorem hp_20 : (parseMethodDescriptor "(III)I").map (fun d => d.parameters.length) = some 3 := by decide +kernel
theorem hp_21 : (parseMethodDescriptor "(LMoodTown$Town;I)LMoodTown$Town;").map (fun d => d.parameters.length) = some 2 := by decide +kernel
theorem hp_22 : (parseMethodDescriptor "()J").map (fun d => d.parameters.length) = some 0 := by decide +kernel
theorem hp_23 : (parseMethodDescriptor "(LMoodTown$Town;I)I").map (fun d => d.parameters.length) = some 2 := by decide +kernel
theorem hp_24 : (parseMethodDescriptor "(LMoodTown$Town;II)Z").map (fun d => d.parameters.length) = some 3 := by decide +kernel
theorem hp_25 : (parseMethodDescriptor "(IIII)I").map (fun d => d.parameters.length) = some 4 := by decide +kernel
theorem hp_26 : (parseMethodDescriptor "(LMoodTown$Town;III)I").map (fun d => d.parameters.length) = some 4 := by decide +kernel
theorem hp_27 : (parseMethodDescriptor "(LMoodTown$Town;III)V").map (fun d => d.parameters.length) = some 4 := by decide +kernel
theorem hp_28 : (parseMethodDescriptor "(LMoodTown$Town;II)I").map (fun d => d.parameters.length) = some 3 := by decide +kernel
theorem hp_29 : (parseMethodDescriptor "(III)J").map (fun d => d.parameters.length) = some 3 := by decide +kernel
theorem hp_30 : (parseMethodDescriptor "(LMoodTown$Town;II)J").map (fun d => d.parameters.length) = some 3 := by decide +kernel
theorem hp_31 : (parseMethodDescriptor "(JJ)J").map (fun d => d.parameters.length) = some 2 := by decide +kernel
theorem hp_32 : (parseMethodDescriptor "(LMoodTown$Town;I)Z").map (fun d => d.parameters.length) = some 2 := by decide +kernel
theorem hp_33 : (parseMethodDescriptor "(LMoodTown$Sheet;I)Z").map (fun d => d.parameters.length) = some 2 := by decide +kernel
set_option maxRecDepth 100000 in
theorem hi_10 : Cond.initialized "MoodTownModel" ∈ lw_gt := lw_gd 64 3 rfl rfl
theorem hc_10 : "MoodTownModel" ≠ "java/lang/invoke/MethodHandle" := by decide +kernel
theorem hv_10 : "MoodTownModel" ≠ "java/lang/invoke/VarHandle" := by decide +kernel
theorem hp_34 : (parseMethodDescriptor "(JJJ)Z").map (fun d => d.parameters.length) = some 3 := by decide +kernel
theorem hp_35 : (parseMethodDescriptor "(ZI)V").map (fun d => d.parameters.length) = some 2 := by decide +kernel
theorem hp_36 : (parseMethodDescriptor "(III)Z").map (fun d => d.parameters.length) = some 3 := by decide +kernel
theorem hp_37 : (parseMethodDescriptor "(Z)I").map (fun d => d.parameters.length) = some 1 := by decide +kernel
set_option maxRecDepth 100000 in
theorem hg_0 : pm_hk 1 m_1 ∧ pm_hk 1 m_2 ∧ pm_hk 1 m_3 ∧ pm_hk 1 m_4 ∧ pm_hk 0 m_5 ∧ pm_hk 2 m_6 ∧ pm_hk 1 m_7 ∧ pm_hk 1 m_8 ∧ pm_hk 1 m_9 ∧ pm_hk 0 m_10 ∧ pm_hk 0 m_11 ∧ pm_hk 0 m_12 ∧ pm_hk 0 m_13 ∧ pm_hk 0 m_14 ∧ pm_hk 0 m_15 ∧ pm_hk 0 m_16 := ⟨⟨⟨lw_gd 64 15 rfl rfl, hi_0, hc_0, hv_0, hp_0⟩, lw_gd 64 14 rfl rfl, rfl, rfl⟩, ⟨⟨lw_gd 64 23 rfl rfl, hi_1, hc_1, hv_1, hp_0⟩, lw_gd 64 22 rfl rfl, rfl, rfl⟩, ⟨⟨lw_gd 64 54 rfl rfl, hi_2, hc_2, hv_2, hp_1⟩, lw_gd 64 53 rfl rfl, rfl, rfl⟩, ⟨⟨lw_gd 64 60 rfl rfl, hi_3, hc_3, hv_3, hp_0⟩, lw_gd 64 59 rfl rfl, rfl, rfl⟩, ⟨⟨lw_gd 128 1 rfl rfl, hi_3, hc_3, hv_3, hp_0⟩, lw_gd 64 63 rfl rfl, lw_gd 128 0 rfl rfl, rfl, by decide⟩, ⟨⟨lw_gd 128 4 rfl rfl, hi_4, hc_4, hv_4, hp_2⟩, lw_gd 128 3 rfl rfl⟩, ⟨⟨lw_gd 192 59 rfl rfl, hi_5, hc_5, hv_5, hp_0⟩, lw_gd 192 58 rfl rfl, rfl, rfl⟩, ⟨⟨lw_gd 256 28 rfl rfl, hi_6, hc_6, hv_6, hp_3⟩, lw_gd 256 27 rfl rfl, rfl, rfl⟩, ⟨⟨lw_gd 256 49 rfl rfl, hi_7, hc_7, hv_7, hp_0⟩, lw_gd 256 48 rfl rfl, rfl, rfl⟩, ⟨⟨lw_gd 320 30 rfl rfl, hi_0, hc_0, hv_0, hp_4⟩, lw_gd 320 28 rfl rfl, lw_gd 320 29 rfl rfl, rfl, by decide⟩, ⟨⟨lw_gd 320 34 rfl rfl, hi_1, hc_1, hv_1, hp_5⟩, lw_gd 320 32 rfl rfl, lw_gd 320 33 rfl rfl, rfl, by decide⟩, ⟨⟨lw_gd 320 38 rfl rfl, hi_0, hc_0, hv_0, hp_4⟩, lw_gd 320 36 rfl rfl, lw_gd 320 37 rfl rfl, rfl, by decide⟩, ⟨⟨lw_gd 320 42 rfl rfl, hi_0, hc_0, hv_0, hp_6⟩, lw_gd 320 40 rfl rfl, lw_gd 320 41 rfl rfl, rfl, by decide⟩, ⟨⟨lw_gd 320 46 rfl rfl, hi_2, hc_2, hv_2, hp_0⟩, lw_gd 320 44 rfl rfl, lw_gd 320 45 rfl rfl, rfl, by decide⟩, ⟨⟨lw_gd 320 51 rfl rfl, hi_1, hc_1, hv_1, hp_0⟩, lw_gd 320 49 rfl rfl, lw_gd 320 50 rfl rfl, rfl, by decide⟩, ⟨⟨lw_gd 320 55 rfl rfl, hi_1, hc_1, hv_1, hp_0⟩, lw_gd 320 53 rfl rfl, lw_gd 320 54 rfl rfl, rfl, by decide⟩⟩
theorem hk_1 : pm_hk 1 m_1 := hg_0.1
theorem hk_2 : pm_hk 1 m_2 := hg_0.2.1
theorem hk_3 : pm_hk 1 m_3 := hg_0.2.2.1
theorem hk_4 : pm_hk 1 m_4 := hg_0.2.2.2.1
theorem hk_5 : pm_hk 0 m_5 := hg_0.2.2.2.2.1
theorem hk_6 : pm_hk 2 m_6 := hg_0.2.2.2.2.2.1
theorem hk_7 : pm_hk 1 m_7 := hg_0.2.2.2.2.2.2.1
theorem hk_8 : pm_hk 1 m_8 := hg_0.2.2.2.2.2.2.2.1
theorem hk_9 : pm_hk 1 m_9 := hg_0.2.2.2.2.2.2.2.2.1
theorem hk_10 : pm_hk 0 m_10 := hg_0.2.2.2.2.2.2.2.2.2.1
theorem hk_11 : pm_hk 0 m_11 := hg_0.2.2.2.2.2.2.2.2.2.2.1
theorem hk_12 : pm_hk 0 m_12 := hg_0.2.2.2.2.2.2.2.2.2.2.2.1
theorem hk_13 : pm_hk 0 m_13 := hg_0.2.2.2.2.2.2.2.2.2.2.2.2.1
theorem hk_14 : pm_hk 0 m_14 := hg_0.2.2.2.2.2.2.2.2.2.2.2.2.2.1
theorem hk_15 : pm_hk 0 m_15 := hg_0.2.2.2.2.2.2.2.2.2.2.2.2.2.2.1
theorem hk_16 : pm_hk 0 m_16 := hg_0.2.2.2.2.2.2.2.2.2.2.2.2.2.2.2
set_option maxRecDepth 100000 in
theorem hg_1 : pm_hk 2 m_17 ∧ pm_hk 0 m_18 ∧ pm_hk 0 m_19 ∧ pm_hk 0 m_20 ∧ pm_hk 0 m_21 ∧ pm_hk 0 m_22 ∧ pm_hk 0 m_23 ∧ pm_hk 0 m_24 ∧ pm_hk 0 m_25 ∧ pm_hk 0 m_26 ∧ pm_hk 0 m_27 ∧ pm_hk 0 m_28 ∧ pm_hk 0 m_29 ∧ pm_hk 0 m_30 ∧ pm_hk 0 m_31 ∧ pm_hk 0 m_32 := ⟨⟨⟨lw_gd 320 58 rfl rfl, hi_1, hc_1, hv_1, hp_4⟩, lw_gd 320 57 rfl rfl⟩, ⟨⟨lw_gd 320 62 rfl rfl, hi_1, hc_1, hv_1, hp_0⟩, lw_gd 320 61 rfl rfl, lw_gd 0 0 rfl rfl, rfl, by decide⟩, ⟨⟨lw_gd 384 2 rfl rfl, hi_2, hc_2, hv_2, hp_0⟩, lw_gd 384 1 rfl rfl, lw_gd 0 1 rfl rfl, rfl, by decide⟩, ⟨⟨lw_gd 384 6 rfl rfl, hi_2, hc_2, hv_2, hp_7⟩, lw_gd 384 5 rfl rfl, lw_gd 0 2 rfl rfl, rfl, by decide⟩, ⟨⟨lw_gd 384 11 rfl rfl, hi_1, hc_1, hv_1, hp_8⟩, lw_gd 384 9 rfl rfl, lw_gd 384 10 rfl rfl, rfl, by decide⟩, ⟨⟨lw_gd 384 63 rfl rfl, hi_2, hc_2, hv_2, hp_0⟩, lw_gd 384 62 rfl rfl, lw_gd 0 3 rfl rfl, rfl, by decide⟩, ⟨⟨lw_gd 448 3 rfl rfl, hi_2, hc_2, hv_2, hp_9⟩, lw_gd 448 2 rfl rfl, lw_gd 0 4 rfl rfl, rfl, by decide⟩, ⟨⟨lw_gd 448 7 rfl rfl, hi_2, hc_2, hv_2, hp_10⟩, lw_gd 448 6 rfl rfl, lw_gd 0 5 rfl rfl, rfl, by decide⟩, ⟨⟨lw_gd 448 11 rfl rfl, hi_2, hc_2, hv_2, hp_5⟩, lw_gd 448 10 rfl rfl, lw_gd 0 6 rfl rfl, rfl, by decide⟩, ⟨⟨lw_gd 448 16 rfl rfl, hi_2, hc_2, hv_2, hp_0⟩, lw_gd 448 15 rfl rfl, lw_gd 0 7 rfl rfl, rfl, by decide⟩, ⟨⟨lw_gd 448 20 rfl rfl, hi_2, hc_2, hv_2, hp_11⟩, lw_gd 448 19 rfl rfl, lw_gd 0 8 rfl rfl, rfl, by decide⟩, ⟨⟨lw_gd 448 24 rfl rfl, hi_3, hc_3, hv_3, hp_5⟩, lw_gd 448 22 rfl rfl, lw_gd 448 23 rfl rfl, rfl, by decide⟩, ⟨⟨lw_gd 448 28 rfl rfl, hi_3, hc_3, hv_3, hp_5⟩, lw_gd 448 26 rfl rfl, lw_gd 448 27 rfl rfl, rfl, by decide⟩, ⟨⟨lw_gd 448 32 rfl rfl, hi_3, hc_3, hv_3, hp_4⟩, lw_gd 448 30 rfl rfl, lw_gd 448 31 rfl rfl, rfl, by decide⟩, ⟨⟨lw_gd 448 37 rfl rfl, hi_2, hc_2, hv_2, hp_11⟩, lw_gd 448 36 rfl rfl, lw_gd 0 9 rfl rfl, rfl, by decide⟩, ⟨⟨lw_gd 448 41 rfl rfl, hi_3, hc_3, hv_3, hp_12⟩, lw_gd 448 39 rfl rfl, lw_gd 448 40 rfl rfl, rfl, by decide⟩⟩
theorem hk_17 : pm_hk 2 m_17 := hg_1.1
theorem hk_18 : pm_hk 0 m_18 := hg_1.2.1
theorem hk_19 : pm_hk 0 m_19 := hg_1.2.2.1
theorem hk_20 : pm_hk 0 m_20 := hg_1.2.2.2.1
theorem hk_21 : pm_hk 0 m_21 := hg_1.2.2.2.2.1
theorem hk_22 : pm_hk 0 m_22 := hg_1.2.2.2.2.2.1
theorem hk_23 : pm_hk 0 m_23 := hg_1.2.2.2.2.2.2.1
theorem hk_24 : pm_hk 0 m_24 := hg_1.2.2.2.2.2.2.2.1
theorem hk_25 : pm_hk 0 m_25 := hg_1.2.2.2.2.2.2.2.2.1
theorem hk_26 : pm_hk 0 m_26 := hg_1.2.2.2.2.2.2.2.2.2.1
theorem hk_27 : pm_hk 0 m_27 := hg_1.2.2.2.2.2.2.2.2.2.2.1
theorem hk_28 : pm_hk 0 m_28 := hg_1.2.2.2.2.2.2.2.2.2.2.2.1
theorem hk_29 : pm_hk 0 m_29 := hg_1.2.2.2.2.2.2.2.2.2.2.2.2.1
theorem hk_30 : pm_hk 0 m_30 := hg_1.2.2.2.2.2.2.2.2.2.2.2.2.2.1
theorem hk_31 : pm_hk 0 m_31 := hg_1.2.2.2.2.2.2.2.2.2.2.2.2.2.2.1
theorem hk_32 : pm_hk 0 m_32 := hg_1.2.2.2.2.2.2.2.2.2.2.2.2.2.2.2
set_option maxRecDepth 100000 in
theorem hg_2 : pm_hk 0 m_33 ∧ pm_hk 0 m_34 ∧ pm_hk 0 m_35 ∧ pm_hk 0 m_36 ∧ pm_hk 0 m_37 ∧ pm_hk 0 m_38 ∧ pm_hk 0 m_39 ∧ pm_hk 0 m_40 ∧ pm_hk 0 m_41 ∧ pm_hk 0 m_42 ∧ pm_hk 0 m_43 ∧ pm_hk 0 m_44 ∧ pm_hk 0 m_45 ∧ pm_hk 0 m_46 ∧ pm_hk 0 m_47 ∧ pm_hk 2 m_48 := ⟨⟨⟨lw_gd 448 47 rfl rfl, hi_2, hc_2, hv_2, hp_0⟩, lw_gd 448 46 rfl rfl, lw_gd 0 10 rfl rfl, rfl, by decide⟩, ⟨⟨lw_gd 448 52 rfl rfl, hi_2, hc_2, hv_2, hp_0⟩, lw_gd 448 51 rfl rfl, lw_gd 0 11 rfl rfl, rfl, by decide⟩, ⟨⟨lw_gd 448 57 rfl rfl, hi_2, hc_2, hv_2, hp_0⟩, lw_gd 448 56 rfl rfl, lw_gd 0 12 rfl rfl, rfl, by decide⟩, ⟨⟨lw_gd 448 61 rfl rfl, hi_2, hc_2, hv_2, hp_0⟩, lw_gd 448 60 rfl rfl, lw_gd 0 13 rfl rfl, rfl, by decide⟩, ⟨⟨lw_gd 512 1 rfl rfl, hi_2, hc_2, hv_2, hp_13⟩, lw_gd 512 0 rfl rfl, lw_gd 0 14 rfl rfl, rfl, by decide⟩, ⟨⟨lw_gd 512 5 rfl rfl, hi_3, hc_3, hv_3, hp_5⟩, lw_gd 512 3 rfl rfl, lw_gd 512 4 rfl rfl, rfl, by decide⟩, ⟨⟨lw_gd 512 9 rfl rfl, hi_3, hc_3, hv_3, hp_6⟩, lw_gd 512 7 rfl rfl, lw_gd 512 8 rfl rfl, rfl, by decide⟩, ⟨⟨lw_gd 512 13 rfl rfl, hi_3, hc_3, hv_3, hp_5⟩, lw_gd 512 11 rfl rfl, lw_gd 512 12 rfl rfl, rfl, by decide⟩, ⟨⟨lw_gd 512 18 rfl rfl, hi_3, hc_3, hv_3, hp_14⟩, lw_gd 512 16 rfl rfl, lw_gd 512 17 rfl rfl, rfl, by decide⟩, ⟨⟨lw_gd 512 22 rfl rfl, hi_3, hc_3, hv_3, hp_14⟩, lw_gd 512 20 rfl rfl, lw_gd 512 21 rfl rfl, rfl, by decide⟩, ⟨⟨lw_gd 512 29 rfl rfl, hi_0, hc_0, hv_0, hp_6⟩, lw_gd 512 27 rfl rfl, lw_gd 512 28 rfl rfl, rfl, by decide⟩, ⟨⟨lw_gd 512 33 rfl rfl, hi_0, hc_0, hv_0, hp_4⟩, lw_gd 512 31 rfl rfl, lw_gd 512 32 rfl rfl, rfl, by decide⟩, ⟨⟨lw_gd 512 37 rfl rfl, hi_0, hc_0, hv_0, hp_10⟩, lw_gd 512 35 rfl rfl, lw_gd 512 36 rfl rfl, rfl, by decide⟩, ⟨⟨lw_gd 512 42 rfl rfl, hi_0, hc_0, hv_0, hp_4⟩, lw_gd 512 40 rfl rfl, lw_gd 512 41 rfl rfl, rfl, by decide⟩, ⟨⟨lw_gd 512 48 rfl rfl, hi_0, hc_0, hv_0, hp_10⟩, lw_gd 512 46 rfl rfl, lw_gd 512 47 rfl rfl, rfl, by decide⟩, ⟨⟨lw_gd 512 51 rfl rfl, hi_0, hc_0, hv_0, hp_5⟩, lw_gd 512 50 rfl rfl⟩⟩
theorem hk_33 : pm_hk 0 m_33 := hg_2.1
theorem hk_34 : pm_hk 0 m_34 := hg_2.2.1
theorem hk_35 : pm_hk 0 m_35 := hg_2.2.2.1
theorem hk_36 : pm_hk 0 m_36 := hg_2.2.2.2.1
theorem hk_37 : pm_hk 0 m_37 := hg_2.2.2.2.2.1
theorem hk_38 : pm_hk 0 m_38 := hg_2.2.2.2.2.2.1
theorem hk_39 : pm_hk 0 m_39 := hg_2.2.2.2.2.2.2.1
theorem hk_40 : pm_hk 0 m_40 := hg_2.2.2.2.2.2.2.2.1
theorem hk_41 : pm_hk 0 m_41 := hg_2.2.2.2.2.2.2.2.2.1
theorem hk_42 : pm_hk 0 m_42 := hg_2.2.2.2.2.2.2.2.2.2.1
theorem hk_43 : pm_hk 0 m_43 := hg_2.2.2.2.2.2.2.2.2.2.2.1
theorem hk_44 : pm_hk 0 m_44 := hg_2.2.2.2.2.2.2.2.2.2.2.2.1
theorem hk_45 : pm_hk 0 m_45 := hg_2.2.2.2.2.2.2.2.2.2.2.2.2.1
theorem hk_46 : pm_hk 0 m_46 := hg_2.2.2.2.2.2.2.2.2.2.2.2.2.2.1
theorem hk_47 : pm_hk 0 m_47 := hg_2.2.2.2.2.2.2.2.2.2.2.2.2.2.2.1
theorem hk_48 : pm_hk 2 m_48 := hg_2.2.2.2.2.2.2.2.2.2.2.2.2.2.2.2
set_option maxRecDepth 100000 in
theorem hg_3 : pm_hk 0 m_49 ∧ pm_hk 0 m_50 ∧ pm_hk 0 m_51 ∧ pm_hk 0 m_52 ∧ pm_hk 0 m_53 ∧ pm_hk 0 m_54 ∧ pm_hk 0 m_55 ∧ pm_hk 0 m_56 ∧ pm_hk 2 m_57 ∧ pm_hk 0 m_58 ∧ pm_hk 0 m_59 ∧ pm_hk 0 m_60 ∧ pm_hk 0 m_61 ∧ pm_hk 2 m_62 ∧ pm_hk 2 m_63 ∧ pm_hk 2 m_64 := ⟨⟨⟨lw_gd 512 55 rfl rfl, hi_0, hc_0, hv_0, hp_10⟩, lw_gd 512 53 rfl rfl, lw_gd 512 54 rfl rfl, rfl, by decide⟩, ⟨⟨lw_gd 512 59 rfl rfl, hi_3, hc_3, hv_3, hp_15⟩, lw_gd 512 57 rfl rfl, lw_gd 512 58 rfl rfl, rfl, by decide⟩, ⟨⟨lw_gd 576 0 rfl rfl, hi_0, hc_0, hv_0, hp_16⟩, lw_gd 512 62 rfl rfl, lw_gd 512 63 rfl rfl, rfl, by decide⟩, ⟨⟨lw_gd 576 4 rfl rfl, hi_0, hc_0, hv_0, hp_10⟩, lw_gd 576 2 rfl rfl, lw_gd 576 3 rfl rfl, rfl, by decide⟩, ⟨⟨lw_gd 576 8 rfl rfl, hi_0, hc_0, hv_0, hp_16⟩, lw_gd 576 6 rfl rfl, lw_gd 576 7 rfl rfl, rfl, by decide⟩, ⟨⟨lw_gd 576 13 rfl rfl, hi_0, hc_0, hv_0, hp_10⟩, lw_gd 576 11 rfl rfl, lw_gd 576 12 rfl rfl, rfl, by decide⟩, ⟨⟨lw_gd 576 17 rfl rfl, hi_0, hc_0, hv_0, hp_4⟩, lw_gd 576 15 rfl rfl, lw_gd 576 16 rfl rfl, rfl, by decide⟩, ⟨⟨lw_gd 576 21 rfl rfl, hi_0, hc_0, hv_0, hp_10⟩, lw_gd 576 19 rfl rfl, lw_gd 576 20 rfl rfl, rfl, by decide⟩, ⟨⟨lw_gd 576 24 rfl rfl, hi_0, hc_0, hv_0, hp_5⟩, lw_gd 576 23 rfl rfl⟩, ⟨⟨lw_gd 576 28 rfl rfl, hi_5, hc_5, hv_5, hp_14⟩, lw_gd 576 26 rfl rfl, lw_gd 576 27 rfl rfl, rfl, by decide⟩, ⟨⟨lw_gd 576 32 rfl rfl, hi_3, hc_3, hv_3, hp_4⟩, lw_gd 576 30 rfl rfl, lw_gd 576 31 rfl rfl, rfl, by decide⟩, ⟨⟨lw_gd 576 36 rfl rfl, hi_3, hc_3, hv_3, hp_4⟩, lw_gd 576 34 rfl rfl, lw_gd 576 35 rfl rfl, rfl, by decide⟩, ⟨⟨lw_gd 576 40 rfl rfl, hi_5, hc_5, hv_5, hp_17⟩, lw_gd 576 39 rfl rfl, lw_gd 0 15 rfl rfl, rfl, by decide⟩, ⟨⟨lw_gd 576 43 rfl rfl, hi_8, hc_8, hv_8, hp_4⟩, lw_gd 576 42 rfl rfl⟩, ⟨⟨lw_gd 576 46 rfl rfl, hi_9, hc_9, hv_9, hp_10⟩, lw_gd 576 45 rfl rfl⟩, ⟨⟨lw_gd 576 49 rfl rfl, hi_5, hc_5, hv_5, hp_10⟩, lw_gd 576 48 rfl rfl⟩⟩
theorem hk_49 : pm_hk 0 m_49 := hg_3.1
theorem hk_50 : pm_hk 0 m_50 := hg_3.2.1
theorem hk_51 : pm_hk 0 m_51 := hg_3.2.2.1
theorem hk_52 : pm_hk 0 m_52 := hg_3.2.2.2.1
theorem hk_53 : pm_hk 0 m_53 := hg_3.2.2.2.2.1
theorem hk_54 : pm_hk 0 m_54 := hg_3.2.2.2.2.2.1
theorem hk_55 : pm_hk 0 m_55 := hg_3.2.2.2.2.2.2.1
theorem hk_56 : pm_hk 0 m_56 := hg_3.2.2.2.2.2.2.2.1
theorem hk_57 : pm_hk 2 m_57 := hg_3.2.2.2.2.2.2.2.2.1
theorem hk_58 : pm_hk 0 m_58 := hg_3.2.2.2.2.2.2.2.2.2.1
theorem hk_59 : pm_hk 0 m_59 := hg_3.2.2.2.2.2.2.2.2.2.2.1
theorem hk_60 : pm_hk 0 m_60 := hg_3.2.2.2.2.2.2.2.2.2.2.2.1
theorem hk_61 : pm_hk 0 m_61 := hg_3.2.2.2.2.2.2.2.2.2.2.2.2.1
theorem hk_62 : pm_hk 2 m_62 := hg_3.2.2.2.2.2.2.2.2.2.2.2.2.2.1
theorem hk_63 : pm_hk 2 m_63 := hg_3.2.2.2.2.2.2.2.2.2.2.2.2.2.2.1
theorem hk_64 : pm_hk 2 m_64 := hg_3.2.2.2.2.2.2.2.2.2.2.2.2.2.2.2
set_option maxRecDepth 100000 in
theorem hg_4 : pm_hk 0 m_65 ∧ pm_hk 0 m_66 ∧ pm_hk 0 m_67 ∧ pm_hk 0 m_68 ∧ pm_hk 0 m_69 ∧ pm_hk 0 m_70 ∧ pm_hk 0 m_71 ∧ pm_hk 2 m_72 ∧ pm_hk 0 m_73 ∧ pm_hk 0 m_74 ∧ pm_hk 0 m_75 ∧ pm_hk 0 m_76 ∧ pm_hk 0 m_77 ∧ pm_hk 0 m_78 ∧ pm_hk 0 m_79 ∧ pm_hk 0 m_80 := ⟨⟨⟨lw_gd 576 53 rfl rfl, hi_0, hc_0, hv_0, hp_4⟩, lw_gd 576 51 rfl rfl, lw_gd 576 52 rfl rfl, rfl, by decide⟩, ⟨⟨lw_gd 576 57 rfl rfl, hi_0, hc_0, hv_0, hp_6⟩, lw_gd 576 55 rfl rfl, lw_gd 576 56 rfl rfl, rfl, by decide⟩, ⟨⟨lw_gd 576 61 rfl rfl, hi_6, hc_6, hv_6, hp_18⟩, lw_gd 576 59 rfl rfl, lw_gd 576 60 rfl rfl, rfl, by decide⟩, ⟨⟨lw_gd 640 2 rfl rfl, hi_5, hc_5, hv_5, hp_14⟩, lw_gd 640 0 rfl rfl, lw_gd 640 1 rfl rfl, rfl, by decide⟩, ⟨⟨lw_gd 640 7 rfl rfl, hi_5, hc_5, hv_5, hp_14⟩, lw_gd 640 6 rfl rfl, lw_gd 0 16 rfl rfl, rfl, by decide⟩, ⟨⟨lw_gd 640 11 rfl rfl, hi_5, hc_5, hv_5, hp_14⟩, lw_gd 640 10 rfl rfl, lw_gd 0 17 rfl rfl, rfl, by decide⟩, ⟨⟨lw_gd 640 15 rfl rfl, hi_5, hc_5, hv_5, hp_10⟩, lw_gd 640 14 rfl rfl, lw_gd 0 18 rfl rfl, rfl, by decide⟩, ⟨⟨lw_gd 640 18 rfl rfl, hi_0, hc_0, hv_0, hp_4⟩, lw_gd 640 17 rfl rfl⟩, ⟨⟨lw_gd 640 22 rfl rfl, hi_5, hc_5, hv_5, hp_5⟩, lw_gd 640 20 rfl rfl, lw_gd 640 21 rfl rfl, rfl, by decide⟩, ⟨⟨lw_gd 640 26 rfl rfl, hi_0, hc_0, hv_0, hp_6⟩, lw_gd 640 24 rfl rfl, lw_gd 640 25 rfl rfl, rfl, by decide⟩, ⟨⟨lw_gd 640 31 rfl rfl, hi_0, hc_0, hv_0, hp_4⟩, lw_gd 640 29 rfl rfl, lw_gd 640 30 rfl rfl, rfl, by decide⟩, ⟨⟨lw_gd 640 35 rfl rfl, hi_5, hc_5, hv_5, hp_19⟩, lw_gd 640 33 rfl rfl, lw_gd 640 34 rfl rfl, rfl, by decide⟩, ⟨⟨lw_gd 640 40 rfl rfl, hi_5, hc_5, hv_5, hp_13⟩, lw_gd 640 38 rfl rfl, lw_gd 640 39 rfl rfl, rfl, by decide⟩, ⟨⟨lw_gd 640 44 rfl rfl, hi_3, hc_3, hv_3, hp_6⟩, lw_gd 640 42 rfl rfl, lw_gd 640 43 rfl rfl, rfl, by decide⟩, ⟨⟨lw_gd 640 48 rfl rfl, hi_0, hc_0, hv_0, hp_20⟩, lw_gd 640 46 rfl rfl, lw_gd 640 47 rfl rfl, rfl, by decide⟩, ⟨⟨lw_gd 640 52 rfl rfl, hi_6, hc_6, hv_6, hp_21⟩, lw_gd 640 50 rfl rfl, lw_gd 640 51 rfl rfl, rfl, by decide⟩⟩
theorem hk_65 : pm_hk 0 m_65 := hg_4.1
theorem hk_66 : pm_hk 0 m_66 := hg_4.2.1
theorem hk_67 : pm_hk 0 m_67 := hg_4.2.2.1
theorem hk_68 : pm_hk 0 m_68 := hg_4.2.2.2.1
theorem hk_69 : pm_hk 0 m_69 := hg_4.2.2.2.2.1
theorem hk_70 : pm_hk 0 m_70 := hg_4.2.2.2.2.2.1
theorem hk_71 : pm_hk 0 m_71 := hg_4.2.2.2.2.2.2.1
theorem hk_72 : pm_hk 2 m_72 := hg_4.2.2.2.2.2.2.2.1
theorem hk_73 : pm_hk 0 m_73 := hg_4.2.2.2.2.2.2.2.2.1
theorem hk_74 : pm_hk 0 m_74 := hg_4.2.2.2.2.2.2.2.2.2.1
theorem hk_75 : pm_hk 0 m_75 := hg_4.2.2.2.2.2.2.2.2.2.2.1
theorem hk_76 : pm_hk 0 m_76 := hg_4.2.2.2.2.2.2.2.2.2.2.2.1
theorem hk_77 : pm_hk 0 m_77 := hg_4.2.2.2.2.2.2.2.2.2.2.2.2.1
theorem hk_78 : pm_hk 0 m_78 := hg_4.2.2.2.2.2.2.2.2.2.2.2.2.2.1
theorem hk_79 : pm_hk 0 m_79 := hg_4.2.2.2.2.2.2.2.2.2.2.2.2.2.2.1
theorem hk_80 : pm_hk 0 m_80 := hg_4.2.2.2.2.2.2.2.2.2.2.2.2.2.2.2
set_option maxRecDepth 100000 in
theorem hg_5 : pm_hk 0 m_81 ∧ pm_hk 0 m_82 ∧ pm_hk 0 m_83 ∧ pm_hk 0 m_84 ∧ pm_hk 0 m_85 ∧ pm_hk 0 m_86 ∧ pm_hk 2 m_87 ∧ pm_hk 2 m_88 ∧ pm_hk 0 m_89 ∧ pm_hk 2 m_90 ∧ pm_hk 0 m_91 ∧ pm_hk 0 m_92 ∧ pm_hk 2 m_93 ∧ pm_hk 0 m_94 ∧ pm_hk 0 m_95 ∧ pm_hk 2 m_96 := ⟨⟨⟨lw_gd 640 57 rfl rfl, hi_0, hc_0, hv_0, hp_6⟩, lw_gd 640 55 rfl rfl, lw_gd 640 56 rfl rfl, rfl, by decide⟩, ⟨⟨lw_gd 640 61 rfl rfl, hi_6, hc_6, hv_6, hp_18⟩, lw_gd 640 59 rfl rfl, lw_gd 640 60 rfl rfl, rfl, by decide⟩, ⟨⟨lw_gd 704 1 rfl rfl, hi_6, hc_6, hv_6, hp_13⟩, lw_gd 704 0 rfl rfl, lw_gd 0 19 rfl rfl, rfl, by decide⟩, ⟨⟨lw_gd 704 6 rfl rfl, hi_0, hc_0, hv_0, hp_4⟩, lw_gd 704 4 rfl rfl, lw_gd 704 5 rfl rfl, rfl, by decide⟩, ⟨⟨lw_gd 704 10 rfl rfl, hi_6, hc_6, hv_6, hp_18⟩, lw_gd 704 8 rfl rfl, lw_gd 704 9 rfl rfl, rfl, by decide⟩, ⟨⟨lw_gd 704 14 rfl rfl, hi_3, hc_3, hv_3, hp_22⟩, lw_gd 704 12 rfl rfl, lw_gd 704 13 rfl rfl, rfl, by decide⟩, ⟨⟨lw_gd 704 18 rfl rfl, hi_6, hc_6, hv_6, hp_4⟩, lw_gd 704 17 rfl rfl⟩, ⟨⟨lw_gd 704 21 rfl rfl, hi_6, hc_6, hv_6, hp_4⟩, lw_gd 704 20 rfl rfl⟩, ⟨⟨lw_gd 704 25 rfl rfl, hi_0, hc_0, hv_0, hp_10⟩, lw_gd 704 23 rfl rfl, lw_gd 704 24 rfl rfl, rfl, by decide⟩, ⟨⟨lw_gd 704 28 rfl rfl, hi_0, hc_0, hv_0, hp_5⟩, lw_gd 704 27 rfl rfl⟩, ⟨⟨lw_gd 704 32 rfl rfl, hi_0, hc_0, hv_0, hp_5⟩, lw_gd 704 31 rfl rfl, lw_gd 0 20 rfl rfl, rfl, by decide⟩, ⟨⟨lw_gd 704 36 rfl rfl, hi_6, hc_6, hv_6, hp_23⟩, lw_gd 704 34 rfl rfl, lw_gd 704 35 rfl rfl, rfl, by decide⟩, ⟨⟨lw_gd 704 39 rfl rfl, hi_0, hc_0, hv_0, hp_4⟩, lw_gd 704 38 rfl rfl⟩, ⟨⟨lw_gd 704 43 rfl rfl, hi_3, hc_3, hv_3, hp_4⟩, lw_gd 704 41 rfl rfl, lw_gd 704 42 rfl rfl, rfl, by decide⟩, ⟨⟨lw_gd 704 47 rfl rfl, hi_3, hc_3, hv_3, hp_10⟩, lw_gd 704 45 rfl rfl, lw_gd 704 46 rfl rfl, rfl, by decide⟩, ⟨⟨lw_gd 704 50 rfl rfl, hi_0, hc_0, hv_0, hp_20⟩, lw_gd 704 49 rfl rfl⟩⟩
theorem hk_81 : pm_hk 0 m_81 := hg_5.1
theorem hk_82 : pm_hk 0 m_82 := hg_5.2.1
theorem hk_83 : pm_hk 0 m_83 := hg_5.2.2.1
theorem hk_84 : pm_hk 0 m_84 := hg_5.2.2.2.1
theorem hk_85 : pm_hk 0 m_85 := hg_5.2.2.2.2.1
theorem hk_86 : pm_hk 0 m_86 := hg_5.2.2.2.2.2.1
theorem hk_87 : pm_hk 2 m_87 := hg_5.2.2.2.2.2.2.1
theorem hk_88 : pm_hk 2 m_88 := hg_5.2.2.2.2.2.2.2.1
theorem hk_89 : pm_hk 0 m_89 := hg_5.2.2.2.2.2.2.2.2.1
theorem hk_90 : pm_hk 2 m_90 := hg_5.2.2.2.2.2.2.2.2.2.1
theorem hk_91 : pm_hk 0 m_91 := hg_5.2.2.2.2.2.2.2.2.2.2.1
theorem hk_92 : pm_hk 0 m_92 := hg_5.2.2.2.2.2.2.2.2.2.2.2.1
theorem hk_93 : pm_hk 2 m_93 := hg_5.2.2.2.2.2.2.2.2.2.2.2.2.1
theorem hk_94 : pm_hk 0 m_94 := hg_5.2.2.2.2.2.2.2.2.2.2.2.2.2.1
theorem hk_95 : pm_hk 0 m_95 := hg_5.2.2.2.2.2.2.2.2.2.2.2.2.2.2.1
theorem hk_96 : pm_hk 2 m_96 := hg_5.2.2.2.2.2.2.2.2.2.2.2.2.2.2.2
set_option maxRecDepth 100000 in
theorem hg_6 : pm_hk 0 m_97 ∧ pm_hk 0 m_98 ∧ pm_hk 0 m_99 ∧ pm_hk 0 m_100 ∧ pm_hk 0 m_101 ∧ pm_hk 0 m_102 ∧ pm_hk 0 m_103 ∧ pm_hk 0 m_104 ∧ pm_hk 0 m_105 ∧ pm_hk 0 m_106 ∧ pm_hk 0 m_107 ∧ pm_hk 0 m_108 ∧ pm_hk 0 m_109 ∧ pm_hk 0 m_110 ∧ pm_hk 0 m_111 ∧ pm_hk 0 m_112 := ⟨⟨⟨lw_gd 704 54 rfl rfl, hi_6, hc_6, hv_6, hp_24⟩, lw_gd 704 53 rfl rfl, lw_gd 0 21 rfl rfl, rfl, by decide⟩, ⟨⟨lw_gd 704 59 rfl rfl, hi_3, hc_3, hv_3, hp_11⟩, lw_gd 704 57 rfl rfl, lw_gd 704 58 rfl rfl, rfl, by decide⟩, ⟨⟨lw_gd 704 63 rfl rfl, hi_3, hc_3, hv_3, hp_13⟩, lw_gd 704 61 rfl rfl, lw_gd 704 62 rfl rfl, rfl, by decide⟩, ⟨⟨lw_gd 768 4 rfl rfl, hi_3, hc_3, hv_3, hp_6⟩, lw_gd 768 2 rfl rfl, lw_gd 768 3 rfl rfl, rfl, by decide⟩, ⟨⟨lw_gd 768 10 rfl rfl, hi_0, hc_0, hv_0, hp_6⟩, lw_gd 768 8 rfl rfl, lw_gd 768 9 rfl rfl, rfl, by decide⟩, ⟨⟨lw_gd 768 14 rfl rfl, hi_6, hc_6, hv_6, hp_18⟩, lw_gd 768 12 rfl rfl, lw_gd 768 13 rfl rfl, rfl, by decide⟩, ⟨⟨lw_gd 768 18 rfl rfl, hi_3, hc_3, hv_3, hp_11⟩, lw_gd 768 16 rfl rfl, lw_gd 768 17 rfl rfl, rfl, by decide⟩, ⟨⟨lw_gd 768 22 rfl rfl, hi_0, hc_0, hv_0, hp_4⟩, lw_gd 768 20 rfl rfl, lw_gd 768 21 rfl rfl, rfl, by decide⟩, ⟨⟨lw_gd 768 26 rfl rfl, hi_6, hc_6, hv_6, hp_23⟩, lw_gd 768 24 rfl rfl, lw_gd 768 25 rfl rfl, rfl, by decide⟩, ⟨⟨lw_gd 768 32 rfl rfl, hi_0, hc_0, hv_0, hp_25⟩, lw_gd 768 30 rfl rfl, lw_gd 768 31 rfl rfl, rfl, by decide⟩, ⟨⟨lw_gd 768 36 rfl rfl, hi_6, hc_6, hv_6, hp_26⟩, lw_gd 768 34 rfl rfl, lw_gd 768 35 rfl rfl, rfl, by decide⟩, ⟨⟨lw_gd 768 40 rfl rfl, hi_6, hc_6, hv_6, hp_27⟩, lw_gd 768 39 rfl rfl, lw_gd 0 22 rfl rfl, rfl, by decide⟩, ⟨⟨lw_gd 768 45 rfl rfl, hi_3, hc_3, hv_3, hp_10⟩, lw_gd 768 43 rfl rfl, lw_gd 768 44 rfl rfl, rfl, by decide⟩, ⟨⟨lw_gd 768 53 rfl rfl, hi_0, hc_0, hv_0, hp_20⟩, lw_gd 768 51 rfl rfl, lw_gd 768 52 rfl rfl, rfl, by decide⟩, ⟨⟨lw_gd 768 57 rfl rfl, hi_6, hc_6, hv_6, hp_28⟩, lw_gd 768 55 rfl rfl, lw_gd 768 56 rfl rfl, rfl, by decide⟩, ⟨⟨lw_gd 832 1 rfl rfl, hi_0, hc_0, hv_0, hp_29⟩, lw_gd 768 63 rfl rfl, lw_gd 832 0 rfl rfl, rfl, by decide⟩⟩
theorem hk_97 : pm_hk 0 m_97 := hg_6.1
theorem hk_98 : pm_hk 0 m_98 := hg_6.2.1
theorem hk_99 : pm_hk 0 m_99 := hg_6.2.2.1
theorem hk_100 : pm_hk 0 m_100 := hg_6.2.2.2.1
theorem hk_101 : pm_hk 0 m_101 := hg_6.2.2.2.2.1
theorem hk_102 : pm_hk 0 m_102 := hg_6.2.2.2.2.2.1
theorem hk_103 : pm_hk 0 m_103 := hg_6.2.2.2.2.2.2.1
theorem hk_104 : pm_hk 0 m_104 := hg_6.2.2.2.2.2.2.2.1
theorem hk_105 : pm_hk 0 m_105 := hg_6.2.2.2.2.2.2.2.2.1
theorem hk_106 : pm_hk 0 m_106 := hg_6.2.2.2.2.2.2.2.2.2.1
theorem hk_107 : pm_hk 0 m_107 := hg_6.2.2.2.2.2.2.2.2.2.2.1
theorem hk_108 : pm_hk 0 m_108 := hg_6.2.2.2.2.2.2.2.2.2.2.2.1
theorem hk_109 : pm_hk 0 m_109 := hg_6.2.2.2.2.2.2.2.2.2.2.2.2.1
theorem hk_110 : pm_hk 0 m_110 := hg_6.2.2.2.2.2.2.2.2.2.2.2.2.2.1
theorem hk_111 : pm_hk 0 m_111 := hg_6.2.2.2.2.2.2.2.2.2.2.2.2.2.2.1
theorem hk_112 : pm_hk 0 m_112 := hg_6.2.2.2.2.2.2.2.2.2.2.2.2.2.2.2
set_option maxRecDepth 100000 in
theorem hg_7 : pm_hk 0 m_113 ∧ pm_hk 2 m_114 ∧ pm_hk 0 m_115 ∧ pm_hk 0 m_116 ∧ pm_hk 2 m_117 ∧ pm_hk 0 m_118 ∧ pm_hk 0 m_119 ∧ pm_hk 0 m_120 ∧ pm_hk 0 m_121 ∧ pm_hk 0 m_122 ∧ pm_hk 0 m_123 ∧ pm_hk 0 m_124 ∧ pm_hk 0 m_125 ∧ pm_hk 0 m_126 ∧ pm_hk 2 m_127 ∧ pm_hk 0 m_128 := ⟨⟨⟨lw_gd 832 6 rfl rfl, hi_6, hc_6, hv_6, hp_30⟩, lw_gd 832 4 rfl rfl, lw_gd 832 5 rfl rfl, rfl, by decide⟩, ⟨⟨lw_gd 832 9 rfl rfl, hi_6, hc_6, hv_6, hp_30⟩, lw_gd 832 8 rfl rfl⟩, ⟨⟨lw_gd 832 13 rfl rfl, hi_6, hc_6, hv_6, hp_19⟩, lw_gd 832 12 rfl rfl, lw_gd 0 23 rfl rfl, rfl, by decide⟩, ⟨⟨lw_gd 832 18 rfl rfl, hi_3, hc_3, hv_3, hp_22⟩, lw_gd 832 16 rfl rfl, lw_gd 832 17 rfl rfl, rfl, by decide⟩, ⟨⟨lw_gd 832 22 rfl rfl, hi_0, hc_0, hv_0, hp_31⟩, lw_gd 832 21 rfl rfl⟩, ⟨⟨lw_gd 832 26 rfl rfl, hi_0, hc_0, hv_0, hp_10⟩, lw_gd 832 24 rfl rfl, lw_gd 832 25 rfl rfl, rfl, by decide⟩, ⟨⟨lw_gd 832 30 rfl rfl, hi_0, hc_0, hv_0, hp_4⟩, lw_gd 832 28 rfl rfl, lw_gd 832 29 rfl rfl, rfl, by decide⟩, ⟨⟨lw_gd 832 34 rfl rfl, hi_0, hc_0, hv_0, hp_4⟩, lw_gd 832 32 rfl rfl, lw_gd 832 33 rfl rfl, rfl, by decide⟩, ⟨⟨lw_gd 832 38 rfl rfl, hi_6, hc_6, hv_6, hp_18⟩, lw_gd 832 36 rfl rfl, lw_gd 832 37 rfl rfl, rfl, by decide⟩, ⟨⟨lw_gd 832 42 rfl rfl, hi_6, hc_6, hv_6, hp_32⟩, lw_gd 832 41 rfl rfl, lw_gd 0 24 rfl rfl, rfl, by decide⟩, ⟨⟨lw_gd 832 46 rfl rfl, hi_5, hc_5, hv_5, hp_4⟩, lw_gd 832 44 rfl rfl, lw_gd 832 45 rfl rfl, rfl, by decide⟩, ⟨⟨lw_gd 832 51 rfl rfl, hi_6, hc_6, hv_6, hp_23⟩, lw_gd 832 49 rfl rfl, lw_gd 832 50 rfl rfl, rfl, by decide⟩, ⟨⟨lw_gd 832 56 rfl rfl, hi_0, hc_0, hv_0, hp_10⟩, lw_gd 832 54 rfl rfl, lw_gd 832 55 rfl rfl, rfl, by decide⟩, ⟨⟨lw_gd 832 60 rfl rfl, hi_6, hc_6, hv_6, hp_28⟩, lw_gd 832 58 rfl rfl, lw_gd 832 59 rfl rfl, rfl, by decide⟩, ⟨⟨lw_gd 896 0 rfl rfl, hi_9, hc_9, hv_9, hp_4⟩, lw_gd 832 63 rfl rfl⟩, ⟨⟨lw_gd 896 7 rfl rfl, hi_0, hc_0, hv_0, hp_4⟩, lw_gd 896 5 rfl rfl, lw_gd 896 6 rfl rfl, rfl, by decide⟩⟩
theorem hk_113 : pm_hk 0 m_113 := hg_7.1
theorem hk_114 : pm_hk 2 m_114 := hg_7.2.1
theorem hk_115 : pm_hk 0 m_115 := hg_7.2.2.1
theorem hk_116 : pm_hk 0 m_116 := hg_7.2.2.2.1
theorem hk_117 : pm_hk 2 m_117 := hg_7.2.2.2.2.1
theorem hk_118 : pm_hk 0 m_118 := hg_7.2.2.2.2.2.1
theorem hk_119 : pm_hk 0 m_119 := hg_7.2.2.2.2.2.2.1
theorem hk_120 : pm_hk 0 m_120 := hg_7.2.2.2.2.2.2.2.1
theorem hk_121 : pm_hk 0 m_121 := hg_7.2.2.2.2.2.2.2.2.1
theorem hk_122 : pm_hk 0 m_122 := hg_7.2.2.2.2.2.2.2.2.2.1
theorem hk_123 : pm_hk 0 m_123 := hg_7.2.2.2.2.2.2.2.2.2.2.1
theorem hk_124 : pm_hk 0 m_124 := hg_7.2.2.2.2.2.2.2.2.2.2.2.1
theorem hk_125 : pm_hk 0 m_125 := hg_7.2.2.2.2.2.2.2.2.2.2.2.2.1
theorem hk_126 : pm_hk 0 m_126 := hg_7.2.2.2.2.2.2.2.2.2.2.2.2.2.1
theorem hk_127 : pm_hk 2 m_127 := hg_7.2.2.2.2.2.2.2.2.2.2.2.2.2.2.1
theorem hk_128 : pm_hk 0 m_128 := hg_7.2.2.2.2.2.2.2.2.2.2.2.2.2.2.2
set_option maxRecDepth 100000 in
theorem hg_8 : pm_hk 0 m_129 ∧ pm_hk 0 m_130 ∧ pm_hk 2 m_131 ∧ pm_hk 2 m_132 ∧ pm_hk 0 m_133 ∧ pm_hk 0 m_134 ∧ pm_hk 0 m_135 ∧ pm_hk 0 m_136 ∧ pm_hk 0 m_137 ∧ pm_hk 0 m_138 ∧ pm_hk 0 m_139 ∧ pm_hk 0 m_140 ∧ pm_hk 0 m_141 ∧ pm_hk 0 m_142 ∧ pm_hk 0 m_143 ∧ pm_hk 0 m_144 := ⟨⟨⟨lw_gd 896 11 rfl rfl, hi_0, hc_0, hv_0, hp_4⟩, lw_gd 896 9 rfl rfl, lw_gd 896 10 rfl rfl, rfl, by decide⟩, ⟨⟨lw_gd 896 15 rfl rfl, hi_0, hc_0, hv_0, hp_20⟩, lw_gd 896 13 rfl rfl, lw_gd 896 14 rfl rfl, rfl, by decide⟩, ⟨⟨lw_gd 896 18 rfl rfl, hi_0, hc_0, hv_0, hp_5⟩, lw_gd 896 17 rfl rfl⟩, ⟨⟨lw_gd 896 21 rfl rfl, hi_0, hc_0, hv_0, hp_5⟩, lw_gd 896 20 rfl rfl⟩, ⟨⟨lw_gd 896 25 rfl rfl, hi_7, hc_7, hv_7, hp_7⟩, lw_gd 896 23 rfl rfl, lw_gd 896 24 rfl rfl, rfl, by decide⟩, ⟨⟨lw_gd 896 30 rfl rfl, hi_0, hc_0, hv_0, hp_20⟩, lw_gd 896 28 rfl rfl, lw_gd 896 29 rfl rfl, rfl, by decide⟩, ⟨⟨lw_gd 896 34 rfl rfl, hi_7, hc_7, hv_7, hp_4⟩, lw_gd 896 32 rfl rfl, lw_gd 896 33 rfl rfl, rfl, by decide⟩, ⟨⟨lw_gd 896 38 rfl rfl, hi_7, hc_7, hv_7, hp_13⟩, lw_gd 896 36 rfl rfl, lw_gd 896 37 rfl rfl, rfl, by decide⟩, ⟨⟨lw_gd 896 42 rfl rfl, hi_7, hc_7, hv_7, hp_7⟩, lw_gd 896 40 rfl rfl, lw_gd 896 41 rfl rfl, rfl, by decide⟩, ⟨⟨lw_gd 896 46 rfl rfl, hi_0, hc_0, hv_0, hp_25⟩, lw_gd 896 44 rfl rfl, lw_gd 896 45 rfl rfl, rfl, by decide⟩, ⟨⟨lw_gd 896 50 rfl rfl, hi_7, hc_7, hv_7, hp_4⟩, lw_gd 896 48 rfl rfl, lw_gd 896 49 rfl rfl, rfl, by decide⟩, ⟨⟨lw_gd 896 54 rfl rfl, hi_7, hc_7, hv_7, hp_4⟩, lw_gd 896 52 rfl rfl, lw_gd 896 53 rfl rfl, rfl, by decide⟩, ⟨⟨lw_gd 896 59 rfl rfl, hi_0, hc_0, hv_0, hp_33⟩, lw_gd 896 58 rfl rfl, lw_gd 0 25 rfl rfl, rfl, by decide⟩, ⟨⟨lw_gd 896 63 rfl rfl, hi_0, hc_0, hv_0, hp_6⟩, lw_gd 896 61 rfl rfl, lw_gd 896 62 rfl rfl, rfl, by decide⟩, ⟨⟨lw_gd 960 3 rfl rfl, hi_0, hc_0, hv_0, hp_4⟩, lw_gd 960 1 rfl rfl, lw_gd 960 2 rfl rfl, rfl, by decide⟩, ⟨⟨lw_gd 960 10 rfl rfl, hi_3, hc_3, hv_3, hp_6⟩, lw_gd 960 8 rfl rfl, lw_gd 960 9 rfl rfl, rfl, by decide⟩⟩
theorem hk_129 : pm_hk 0 m_129 := hg_8.1
theorem hk_130 : pm_hk 0 m_130 := hg_8.2.1
theorem hk_131 : pm_hk 2 m_131 := hg_8.2.2.1
theorem hk_132 : pm_hk 2 m_132 := hg_8.2.2.2.1
theorem hk_133 : pm_hk 0 m_133 := hg_8.2.2.2.2.1
theorem hk_134 : pm_hk 0 m_134 := hg_8.2.2.2.2.2.1
theorem hk_135 : pm_hk 0 m_135 := hg_8.2.2.2.2.2.2.1
theorem hk_136 : pm_hk 0 m_136 := hg_8.2.2.2.2.2.2.2.1
theorem hk_137 : pm_hk 0 m_137 := hg_8.2.2.2.2.2.2.2.2.1
theorem hk_138 : pm_hk 0 m_138 := hg_8.2.2.2.2.2.2.2.2.2.1
theorem hk_139 : pm_hk 0 m_139 := hg_8.2.2.2.2.2.2.2.2.2.2.1
theorem hk_140 : pm_hk 0 m_140 := hg_8.2.2.2.2.2.2.2.2.2.2.2.1
theorem hk_141 : pm_hk 0 m_141 := hg_8.2.2.2.2.2.2.2.2.2.2.2.2.1
theorem hk_142 : pm_hk 0 m_142 := hg_8.2.2.2.2.2.2.2.2.2.2.2.2.2.1
theorem hk_143 : pm_hk 0 m_143 := hg_8.2.2.2.2.2.2.2.2.2.2.2.2.2.2.1
theorem hk_144 : pm_hk 0 m_144 := hg_8.2.2.2.2.2.2.2.2.2.2.2.2.2.2.2
set_option maxRecDepth 100000 in
theorem hg_9 : pm_hk 1 m_145 ∧ pm_hk 0 m_146 ∧ pm_hk 0 m_147 ∧ pm_hk 0 m_148 ∧ pm_hk 2 m_149 ∧ pm_hk 0 m_150 ∧ pm_hk 0 m_151 ∧ pm_hk 0 m_152 ∧ pm_hk 0 m_153 ∧ pm_hk 0 m_154 ∧ pm_hk 0 m_155 ∧ pm_hk 0 m_156 ∧ pm_hk 0 m_157 ∧ pm_hk 0 m_158 ∧ pm_hk 0 m_159 ∧ pm_hk 0 m_160 := ⟨⟨⟨lw_gd 960 15 rfl rfl, hi_10, hc_10, hv_10, hp_0⟩, lw_gd 960 14 rfl rfl, rfl, rfl⟩, ⟨⟨lw_gd 960 20 rfl rfl, hi_10, hc_10, hv_10, hp_0⟩, lw_gd 960 19 rfl rfl, lw_gd 0 26 rfl rfl, rfl, by decide⟩, ⟨⟨lw_gd 960 24 rfl rfl, hi_10, hc_10, hv_10, hp_0⟩, lw_gd 960 23 rfl rfl, lw_gd 0 27 rfl rfl, rfl, by decide⟩, ⟨⟨lw_gd 1088 7 rfl rfl, hi_10, hc_10, hv_10, hp_4⟩, lw_gd 1088 5 rfl rfl, lw_gd 1088 6 rfl rfl, rfl, by decide⟩, ⟨⟨lw_gd 1088 11 rfl rfl, hi_10, hc_10, hv_10, hp_34⟩, lw_gd 1088 10 rfl rfl⟩, ⟨⟨lw_gd 1088 15 rfl rfl, hi_10, hc_10, hv_10, hp_4⟩, lw_gd 1088 13 rfl rfl, lw_gd 1088 14 rfl rfl, rfl, by decide⟩, ⟨⟨lw_gd 1088 19 rfl rfl, hi_10, hc_10, hv_10, hp_6⟩, lw_gd 1088 17 rfl rfl, lw_gd 1088 18 rfl rfl, rfl, by decide⟩, ⟨⟨lw_gd 1088 23 rfl rfl, hi_10, hc_10, hv_10, hp_0⟩, lw_gd 1088 22 rfl rfl, lw_gd 0 28 rfl rfl, rfl, by decide⟩, ⟨⟨lw_gd 1088 27 rfl rfl, hi_10, hc_10, hv_10, hp_4⟩, lw_gd 1088 26 rfl rfl, lw_gd 0 29 rfl rfl, rfl, by decide⟩, ⟨⟨lw_gd 1088 35 rfl rfl, hi_10, hc_10, hv_10, hp_35⟩, lw_gd 1088 34 rfl rfl, lw_gd 0 30 rfl rfl, rfl, by decide⟩, ⟨⟨lw_gd 1088 39 rfl rfl, hi_10, hc_10, hv_10, hp_0⟩, lw_gd 1088 38 rfl rfl, lw_gd 0 31 rfl rfl, rfl, by decide⟩, ⟨⟨lw_gd 1088 43 rfl rfl, hi_10, hc_10, hv_10, hp_6⟩, lw_gd 1088 42 rfl rfl, lw_gd 0 32 rfl rfl, rfl, by decide⟩, ⟨⟨lw_gd 1088 47 rfl rfl, hi_10, hc_10, hv_10, hp_36⟩, lw_gd 1088 46 rfl rfl, lw_gd 0 33 rfl rfl, rfl, by decide⟩, ⟨⟨lw_gd 1088 51 rfl rfl, hi_10, hc_10, hv_10, hp_36⟩, lw_gd 1088 50 rfl rfl, lw_gd 0 34 rfl rfl, rfl, by decide⟩, ⟨⟨lw_gd 1088 55 rfl rfl, hi_10, hc_10, hv_10, hp_11⟩, lw_gd 1088 54 rfl rfl, lw_gd 0 35 rfl rfl, rfl, by decide⟩, ⟨⟨lw_gd 1088 59 rfl rfl, hi_10, hc_10, hv_10, hp_10⟩, lw_gd 1088 58 rfl rfl, lw_gd 0 36 rfl rfl, rfl, by decide⟩⟩
theorem hk_145 : pm_hk 1 m_145 := hg_9.1
theorem hk_146 : pm_hk 0 m_146 := hg_9.2.1
theorem hk_147 : pm_hk 0 m_147 := hg_9.2.2.1
theorem hk_148 : pm_hk 0 m_148 := hg_9.2.2.2.1
theorem hk_149 : pm_hk 2 m_149 := hg_9.2.2.2.2.1
theorem hk_150 : pm_hk 0 m_150 := hg_9.2.2.2.2.2.1
theorem hk_151 : pm_hk 0 m_151 := hg_9.2.2.2.2.2.2.1
theorem hk_152 : pm_hk 0 m_152 := hg_9.2.2.2.2.2.2.2.1
theorem hk_153 : pm_hk 0 m_153 := hg_9.2.2.2.2.2.2.2.2.1
theorem hk_154 : pm_hk 0 m_154 := hg_9.2.2.2.2.2.2.2.2.2.1
theorem hk_155 : pm_hk 0 m_155 := hg_9.2.2.2.2.2.2.2.2.2.2.1
theorem hk_156 : pm_hk 0 m_156 := hg_9.2.2.2.2.2.2.2.2.2.2.2.1
theorem hk_157 : pm_hk 0 m_157 := hg_9.2.2.2.2.2.2.2.2.2.2.2.2.1
theorem hk_158 : pm_hk 0 m_158 := hg_9.2.2.2.2.2.2.2.2.2.2.2.2.2.1
theorem hk_159 : pm_hk 0 m_159 := hg_9.2.2.2.2.2.2.2.2.2.2.2.2.2.2.1
theorem hk_160 : pm_hk 0 m_160 := hg_9.2.2.2.2.2.2.2.2.2.2.2.2.2.2.2
set_option maxRecDepth 100000 in
theorem hg_10 : pm_hk 0 m_161 ∧ pm_hk 0 m_162 ∧ pm_hk 0 m_163 ∧ pm_hk 2 m_164 ∧ pm_hk 0 m_165 ∧ pm_hk 0 m_166 ∧ pm_hk 0 m_167 ∧ pm_hk 0 m_168 ∧ pm_hk 0 m_169 ∧ pm_hk 0 m_170 ∧ pm_hk 0 m_171 ∧ pm_hk 0 m_172 ∧ pm_hk 0 m_173 ∧ pm_hk 0 m_174 ∧ pm_hk 0 m_175 ∧ pm_hk 0 m_176 := ⟨⟨⟨lw_gd 1088 63 rfl rfl, hi_10, hc_10, hv_10, hp_10⟩, lw_gd 1088 62 rfl rfl, lw_gd 0 37 rfl rfl, rfl, by decide⟩, ⟨⟨lw_gd 1152 3 rfl rfl, hi_10, hc_10, hv_10, hp_6⟩, lw_gd 1152 2 rfl rfl, lw_gd 0 38 rfl rfl, rfl, by decide⟩, ⟨⟨lw_gd 1152 7 rfl rfl, hi_10, hc_10, hv_10, hp_0⟩, lw_gd 1152 6 rfl rfl, lw_gd 0 39 rfl rfl, rfl, by decide⟩, ⟨⟨lw_gd 1152 10 rfl rfl, hi_10, hc_10, hv_10, hp_37⟩, lw_gd 1152 9 rfl rfl⟩, ⟨⟨lw_gd 1152 14 rfl rfl, hi_10, hc_10, hv_10, hp_11⟩, lw_gd 1152 13 rfl rfl, lw_gd 0 40 rfl rfl, rfl, by decide⟩, ⟨⟨lw_gd 1152 18 rfl rfl, hi_10, hc_10, hv_10, hp_6⟩, lw_gd 1152 16 rfl rfl, lw_gd 1152 17 rfl rfl, rfl, by decide⟩, ⟨⟨lw_gd 1152 22 rfl rfl, hi_10, hc_10, hv_10, hp_4⟩, lw_gd 1152 20 rfl rfl, lw_gd 1152 21 rfl rfl, rfl, by decide⟩, ⟨⟨lw_gd 1152 27 rfl rfl, hi_10, hc_10, hv_10, hp_10⟩, lw_gd 1152 25 rfl rfl, lw_gd 1152 26 rfl rfl, rfl, by decide⟩, ⟨⟨lw_gd 1152 31 rfl rfl, hi_10, hc_10, hv_10, hp_5⟩, lw_gd 1152 30 rfl rfl, lw_gd 0 41 rfl rfl, rfl, by decide⟩, ⟨⟨lw_gd 1152 36 rfl rfl, hi_10, hc_10, hv_10, hp_4⟩, lw_gd 1152 34 rfl rfl, lw_gd 1152 35 rfl rfl, rfl, by decide⟩, ⟨⟨lw_gd 1152 40 rfl rfl, hi_10, hc_10, hv_10, hp_5⟩, lw_gd 1152 39 rfl rfl, lw_gd 0 42 rfl rfl, rfl, by decide⟩, ⟨⟨lw_gd 1152 44 rfl rfl, hi_10, hc_10, hv_10, hp_0⟩, lw_gd 1152 43 rfl rfl, lw_gd 0 43 rfl rfl, rfl, by decide⟩, ⟨⟨lw_gd 1152 48 rfl rfl, hi_10, hc_10, hv_10, hp_4⟩, lw_gd 1152 47 rfl rfl, lw_gd 0 44 rfl rfl, rfl, by decide⟩, ⟨⟨lw_gd 1152 52 rfl rfl, hi_10, hc_10, hv_10, hp_10⟩, lw_gd 1152 50 rfl rfl, lw_gd 1152 51 rfl rfl, rfl, by decide⟩, ⟨⟨lw_gd 1152 56 rfl rfl, hi_10, hc_10, hv_10, hp_10⟩, lw_gd 1152 55 rfl rfl, lw_gd 0 45 rfl rfl, rfl, by decide⟩, ⟨⟨lw_gd 1152 60 rfl rfl, hi_10, hc_10, hv_10, hp_10⟩, lw_gd 1152 58 rfl rfl, lw_gd 1152 59 rfl rfl, rfl, by decide⟩⟩
theorem hk_161 : pm_hk 0 m_161 := hg_10.1
theorem hk_162 : pm_hk 0 m_162 := hg_10.2.1
theorem hk_163 : pm_hk 0 m_163 := hg_10.2.2.1
theorem hk_164 : pm_hk 2 m_164 := hg_10.2.2.2.1
theorem hk_165 : pm_hk 0 m_165 := hg_10.2.2.2.2.1
theorem hk_166 : pm_hk 0 m_166 := hg_10.2.2.2.2.2.1
theorem hk_167 : pm_hk 0 m_167 := hg_10.2.2.2.2.2.2.1
theorem hk_168 : pm_hk 0 m_168 := hg_10.2.2.2.2.2.2.2.1
theorem hk_169 : pm_hk 0 m_169 := hg_10.2.2.2.2.2.2.2.2.1
theorem hk_170 : pm_hk 0 m_170 := hg_10.2.2.2.2.2.2.2.2.2.1
theorem hk_171 : pm_hk 0 m_171 := hg_10.2.2.2.2.2.2.2.2.2.2.1
theorem hk_172 : pm_hk 0 m_172 := hg_10.2.2.2.2.2.2.2.2.2.2.2.1
theorem hk_173 : pm_hk 0 m_173 := hg_10.2.2.2.2.2.2.2.2.2.2.2.2.1
theorem hk_174 : pm_hk 0 m_174 := hg_10.2.2.2.2.2.2.2.2.2.2.2.2.2.1
theorem hk_175 : pm_hk 0 m_175 := hg_10.2.2.2.2.2.2.2.2.2.2.2.2.2.2.1
theorem hk_176 : pm_hk 0 m_176 := hg_10.2.2.2.2.2.2.2.2.2.2.2.2.2.2.2
set_option maxRecDepth 100000 in
theorem hg_11 : pm_hk 0 m_177 ∧ pm_hk 0 m_178 ∧ pm_hk 0 m_179 ∧ pm_hk 0 m_180 ∧ pm_hk 0 m_181 ∧ pm_hk 0 m_182 ∧ pm_hk 0 m_183 ∧ pm_hk 0 m_184 ∧ pm_hk 0 m_185 ∧ pm_hk 2 m_186 ∧ pm_hk 2 m_187 ∧ pm_hk 0 m_188 ∧ pm_hk 0 m_189 ∧ pm_hk 0 m_190 ∧ pm_hk 0 m_191 ∧ pm_hk 0 m_192 := ⟨⟨⟨lw_gd 1216 0 rfl rfl, hi_10, hc_10, hv_10, hp_5⟩, lw_gd 1152 63 rfl rfl, lw_gd 0 46 rfl rfl, rfl, by decide⟩, ⟨⟨lw_gd 1216 4 rfl rfl, hi_10, hc_10, hv_10, hp_16⟩, lw_gd 1216 2 rfl rfl, lw_gd 1216 3 rfl rfl, rfl, by decide⟩, ⟨⟨lw_gd 1216 8 rfl rfl, hi_10, hc_10, hv_10, hp_10⟩, lw_gd 1216 6 rfl rfl, lw_gd 1216 7 rfl rfl, rfl, by decide⟩, ⟨⟨lw_gd 1216 12 rfl rfl, hi_10, hc_10, hv_10, hp_16⟩, lw_gd 1216 10 rfl rfl, lw_gd 1216 11 rfl rfl, rfl, by decide⟩, ⟨⟨lw_gd 1216 16 rfl rfl, hi_10, hc_10, hv_10, hp_10⟩, lw_gd 1216 14 rfl rfl, lw_gd 1216 15 rfl rfl, rfl, by decide⟩, ⟨⟨lw_gd 1216 21 rfl rfl, hi_10, hc_10, hv_10, hp_4⟩, lw_gd 1216 19 rfl rfl, lw_gd 1216 20 rfl rfl, rfl, by decide⟩, ⟨⟨lw_gd 1216 25 rfl rfl, hi_10, hc_10, hv_10, hp_10⟩, lw_gd 1216 23 rfl rfl, lw_gd 1216 24 rfl rfl, rfl, by decide⟩, ⟨⟨lw_gd 1216 29 rfl rfl, hi_10, hc_10, hv_10, hp_16⟩, lw_gd 1216 28 rfl rfl, lw_gd 0 47 rfl rfl, rfl, by decide⟩, ⟨⟨lw_gd 1216 33 rfl rfl, hi_10, hc_10, hv_10, hp_10⟩, lw_gd 1216 32 rfl rfl, lw_gd 0 48 rfl rfl, rfl, by decide⟩, ⟨⟨lw_gd 1216 36 rfl rfl, hi_10, hc_10, hv_10, hp_4⟩, lw_gd 1216 35 rfl rfl⟩, ⟨⟨lw_gd 1216 39 rfl rfl, hi_10, hc_10, hv_10, hp_4⟩, lw_gd 1216 38 rfl rfl⟩, ⟨⟨lw_gd 1216 43 rfl rfl, hi_10, hc_10, hv_10, hp_4⟩, lw_gd 1216 41 rfl rfl, lw_gd 1216 42 rfl rfl, rfl, by decide⟩, ⟨⟨lw_gd 1216 47 rfl rfl, hi_10, hc_10, hv_10, hp_4⟩, lw_gd 1216 46 rfl rfl, lw_gd 0 49 rfl rfl, rfl, by decide⟩, ⟨⟨lw_gd 1216 51 rfl rfl, hi_10, hc_10, hv_10, hp_6⟩, lw_gd 1216 49 rfl rfl, lw_gd 1216 50 rfl rfl, rfl, by decide⟩, ⟨⟨lw_gd 1216 55 rfl rfl, hi_10, hc_10, hv_10, hp_13⟩, lw_gd 1216 54 rfl rfl, lw_gd 0 50 rfl rfl, rfl, by decide⟩, ⟨⟨lw_gd 1216 59 rfl rfl, hi_10, hc_10, hv_10, hp_10⟩, lw_gd 1216 58 rfl rfl, lw_gd 0 51 rfl rfl, rfl, by decide⟩⟩
theorem hk_177 : pm_hk 0 m_177 := hg_11.1
theorem hk_178 : pm_hk 0 m_178 := hg_11.2.1
theorem hk_179 : pm_hk 0 m_179 := hg_11.2.2.1
theorem hk_180 : pm_hk 0 m_180 := hg_11.2.2.2.1
theorem hk_181 : pm_hk 0 m_181 := hg_11.2.2.2.2.1
theorem hk_182 : pm_hk 0 m_182 := hg_11.2.2.2.2.2.1
theorem hk_183 : pm_hk 0 m_183 := hg_11.2.2.2.2.2.2.1
theorem hk_184 : pm_hk 0 m_184 := hg_11.2.2.2.2.2.2.2.1
theorem hk_185 : pm_hk 0 m_185 := hg_11.2.2.2.2.2.2.2.2.1
theorem hk_186 : pm_hk 2 m_186 := hg_11.2.2.2.2.2.2.2.2.2.1
theorem hk_187 : pm_hk 2 m_187 := hg_11.2.2.2.2.2.2.2.2.2.2.1
theorem hk_188 : pm_hk 0 m_188 := hg_11.2.2.2.2.2.2.2.2.2.2.2.1
theorem hk_189 : pm_hk 0 m_189 := hg_11.2.2.2.2.2.2.2.2.2.2.2.2.1
theorem hk_190 : pm_hk 0 m_190 := hg_11.2.2.2.2.2.2.2.2.2.2.2.2.2.1
theorem hk_191 : pm_hk 0 m_191 := hg_11.2.2.2.2.2.2.2.2.2.2.2.2.2.2.1
theorem hk_192 : pm_hk 0 m_192 := hg_11.2.2.2.2.2.2.2.2.2.2.2.2.2.2.2
set_option maxRecDepth 100000 in
theorem hg_12 : pm_hk 0 m_193 ∧ pm_hk 2 m_194 ∧ pm_hk 0 m_195 ∧ pm_hk 0 m_196 ∧ pm_hk 0 m_197 ∧ pm_hk 0 m_198 ∧ pm_hk 0 m_199 ∧ pm_hk 0 m_200 ∧ pm_hk 0 m_201 ∧ pm_hk 2 m_202 ∧ pm_hk 0 m_203 ∧ pm_hk 0 m_204 ∧ pm_hk 0 m_205 ∧ pm_hk 0 m_206 ∧ pm_hk 0 m_207 ∧ pm_hk 0 m_208 := ⟨⟨⟨lw_gd 1216 63 rfl rfl, hi_10, hc_10, hv_10, hp_5⟩, lw_gd 1216 62 rfl rfl, lw_gd 0 52 rfl rfl, rfl, by decide⟩, ⟨⟨lw_gd 1280 2 rfl rfl, hi_10, hc_10, hv_10, hp_4⟩, lw_gd 1280 1 rfl rfl⟩, ⟨⟨lw_gd 1280 6 rfl rfl, hi_10, hc_10, hv_10, hp_6⟩, lw_gd 1280 4 rfl rfl, lw_gd 1280 5 rfl rfl, rfl, by decide⟩, ⟨⟨lw_gd 1280 10 rfl rfl, hi_10, hc_10, hv_10, hp_4⟩, lw_gd 1280 8 rfl rfl, lw_gd 1280 9 rfl rfl, rfl, by decide⟩, ⟨⟨lw_gd 1280 15 rfl rfl, hi_10, hc_10, hv_10, hp_6⟩, lw_gd 1280 14 rfl rfl, lw_gd 0 53 rfl rfl, rfl, by decide⟩, ⟨⟨lw_gd 1280 19 rfl rfl, hi_10, hc_10, hv_10, hp_20⟩, lw_gd 1280 17 rfl rfl, lw_gd 1280 18 rfl rfl, rfl, by decide⟩, ⟨⟨lw_gd 1280 23 rfl rfl, hi_10, hc_10, hv_10, hp_6⟩, lw_gd 1280 21 rfl rfl, lw_gd 1280 22 rfl rfl, rfl, by decide⟩, ⟨⟨lw_gd 1280 27 rfl rfl, hi_10, hc_10, hv_10, hp_4⟩, lw_gd 1280 25 rfl rfl, lw_gd 1280 26 rfl rfl, rfl, by decide⟩, ⟨⟨lw_gd 1280 31 rfl rfl, hi_10, hc_10, hv_10, hp_10⟩, lw_gd 1280 29 rfl rfl, lw_gd 1280 30 rfl rfl, rfl, by decide⟩, ⟨⟨lw_gd 1280 36 rfl rfl, hi_10, hc_10, hv_10, hp_4⟩, lw_gd 1280 35 rfl rfl⟩, ⟨⟨lw_gd 1280 40 rfl rfl, hi_10, hc_10, hv_10, hp_10⟩, lw_gd 1280 39 rfl rfl, lw_gd 0 54 rfl rfl, rfl, by decide⟩, ⟨⟨lw_gd 1280 44 rfl rfl, hi_10, hc_10, hv_10, hp_5⟩, lw_gd 1280 43 rfl rfl, lw_gd 0 55 rfl rfl, rfl, by decide⟩, ⟨⟨lw_gd 1280 48 rfl rfl, hi_10, hc_10, hv_10, hp_6⟩, lw_gd 1280 47 rfl rfl, lw_gd 0 56 rfl rfl, rfl, by decide⟩, ⟨⟨lw_gd 1280 52 rfl rfl, hi_10, hc_10, hv_10, hp_6⟩, lw_gd 1280 50 rfl rfl, lw_gd 1280 51 rfl rfl, rfl, by decide⟩, ⟨⟨lw_gd 1280 56 rfl rfl, hi_10, hc_10, hv_10, hp_4⟩, lw_gd 1280 54 rfl rfl, lw_gd 1280 55 rfl rfl, rfl, by decide⟩, ⟨⟨lw_gd 1280 60 rfl rfl, hi_10, hc_10, hv_10, hp_25⟩, lw_gd 1280 58 rfl rfl, lw_gd 1280 59 rfl rfl, rfl, by decide⟩⟩
theorem hk_193 : pm_hk 0 m_193 := hg_12.1
theorem hk_194 : pm_hk 2 m_194 := hg_12.2.1
theorem hk_195 : pm_hk 0 m_195 := hg_12.2.2.1
theorem hk_196 : pm_hk 0 m_196 := hg_12.2.2.2.1
theorem hk_197 : pm_hk 0 m_197 := hg_12.2.2.2.2.1
theorem hk_198 : pm_hk 0 m_198 := hg_12.2.2.2.2.2.1
theorem hk_199 : pm_hk 0 m_199 := hg_12.2.2.2.2.2.2.1
theorem hk_200 : pm_hk 0 m_200 := hg_12.2.2.2.2.2.2.2.1
theorem hk_201 : pm_hk 0 m_201 := hg_12.2.2.2.2.2.2.2.2.1
theorem hk_202 : pm_hk 2 m_202 := hg_12.2.2.2.2.2.2.2.2.2.1
theorem hk_203 : pm_hk 0 m_203 := hg_12.2.2.2.2.2.2.2.2.2.2.1
theorem hk_204 : pm_hk 0 m_204 := hg_12.2.2.2.2.2.2.2.2.2.2.2.1
theorem hk_205 : pm_hk 0 m_205 := hg_12.2.2.2.2.2.2.2.2.2.2.2.2.1
theorem hk_206 : pm_hk 0 m_206 := hg_12.2.2.2.2.2.2.2.2.2.2.2.2.2.1
theorem hk_207 : pm_hk 0 m_207 := hg_12.2.2.2.2.2.2.2.2.2.2.2.2.2.2.1
theorem hk_208 : pm_hk 0 m_208 := hg_12.2.2.2.2.2.2.2.2.2.2.2.2.2.2.2
set_option maxRecDepth 100000 in
theorem hg_13 : pm_hk 0 m_209 ∧ pm_hk 0 m_210 ∧ pm_hk 2 m_211 ∧ pm_hk 0 m_212 ∧ pm_hk 0 m_213 ∧ pm_hk 0 m_214 ∧ pm_hk 0 m_215 ∧ pm_hk 0 m_216 ∧ pm_hk 0 m_217 ∧ pm_hk 0 m_218 ∧ pm_hk 0 m_219 ∧ pm_hk 2 m_220 ∧ pm_hk 0 m_221 ∧ pm_hk 0 m_222 ∧ pm_hk 0 m_223 ∧ pm_hk 0 m_224 := ⟨⟨⟨lw_gd 1344 2 rfl rfl, hi_10, hc_10, hv_10, hp_20⟩, lw_gd 1344 0 rfl rfl, lw_gd 1344 1 rfl rfl, rfl, by decide⟩, ⟨⟨lw_gd 1344 6 rfl rfl, hi_10, hc_10, hv_10, hp_29⟩, lw_gd 1344 4 rfl rfl, lw_gd 1344 5 rfl rfl, rfl, by decide⟩, ⟨⟨lw_gd 1344 10 rfl rfl, hi_10, hc_10, hv_10, hp_31⟩, lw_gd 1344 9 rfl rfl⟩, ⟨⟨lw_gd 1344 14 rfl rfl, hi_10, hc_10, hv_10, hp_10⟩, lw_gd 1344 12 rfl rfl, lw_gd 1344 13 rfl rfl, rfl, by decide⟩, ⟨⟨lw_gd 1344 18 rfl rfl, hi_10, hc_10, hv_10, hp_4⟩, lw_gd 1344 16 rfl rfl, lw_gd 1344 17 rfl rfl, rfl, by decide⟩, ⟨⟨lw_gd 1344 22 rfl rfl, hi_10, hc_10, hv_10, hp_4⟩, lw_gd 1344 20 rfl rfl, lw_gd 1344 21 rfl rfl, rfl, by decide⟩, ⟨⟨lw_gd 1344 26 rfl rfl, hi_10, hc_10, hv_10, hp_10⟩, lw_gd 1344 24 rfl rfl, lw_gd 1344 25 rfl rfl, rfl, by decide⟩, ⟨⟨lw_gd 1344 31 rfl rfl, hi_10, hc_10, hv_10, hp_4⟩, lw_gd 1344 29 rfl rfl, lw_gd 1344 30 rfl rfl, rfl, by decide⟩, ⟨⟨lw_gd 1344 35 rfl rfl, hi_10, hc_10, hv_10, hp_7⟩, lw_gd 1344 34 rfl rfl, lw_gd 0 57 rfl rfl, rfl, by decide⟩, ⟨⟨lw_gd 1344 39 rfl rfl, hi_10, hc_10, hv_10, hp_4⟩, lw_gd 1344 37 rfl rfl, lw_gd 1344 38 rfl rfl, rfl, by decide⟩, ⟨⟨lw_gd 1344 43 rfl rfl, hi_10, hc_10, hv_10, hp_20⟩, lw_gd 1344 41 rfl rfl, lw_gd 1344 42 rfl rfl, rfl, by decide⟩, ⟨⟨lw_gd 1344 46 rfl rfl, hi_10, hc_10, hv_10, hp_15⟩, lw_gd 1344 45 rfl rfl⟩, ⟨⟨lw_gd 1344 51 rfl rfl, hi_10, hc_10, hv_10, hp_20⟩, lw_gd 1344 49 rfl rfl, lw_gd 1344 50 rfl rfl, rfl, by decide⟩, ⟨⟨lw_gd 1344 55 rfl rfl, hi_10, hc_10, hv_10, hp_25⟩, lw_gd 1344 53 rfl rfl, lw_gd 1344 54 rfl rfl, rfl, by decide⟩, ⟨⟨lw_gd 1344 61 rfl rfl, hi_10, hc_10, hv_10, hp_6⟩, lw_gd 1344 59 rfl rfl, lw_gd 1344 60 rfl rfl, rfl, by decide⟩, ⟨⟨lw_gd 1408 1 rfl rfl, hi_10, hc_10, hv_10, hp_4⟩, lw_gd 1344 63 rfl rfl, lw_gd 1408 0 rfl rfl, rfl, by decide⟩⟩
theorem hk_209 : pm_hk 0 m_209 := hg_13.1
theorem hk_210 : pm_hk 0 m_210 := hg_13.2.1
theorem hk_211 : pm_hk 2 m_211 := hg_13.2.2.1
theorem hk_212 : pm_hk 0 m_212 := hg_13.2.2.2.1
theorem hk_213 : pm_hk 0 m_213 := hg_13.2.2.2.2.1
theorem hk_214 : pm_hk 0 m_214 := hg_13.2.2.2.2.2.1
theorem hk_215 : pm_hk 0 m_215 := hg_13.2.2.2.2.2.2.1
theorem hk_216 : pm_hk 0 m_216 := hg_13.2.2.2.2.2.2.2.1
theorem hk_217 : pm_hk 0 m_217 := hg_13.2.2.2.2.2.2.2.2.1
theorem hk_218 : pm_hk 0 m_218 := hg_13.2.2.2.2.2.2.2.2.2.1
theorem hk_219 : pm_hk 0 m_219 := hg_13.2.2.2.2.2.2.2.2.2.2.1
theorem hk_220 : pm_hk 2 m_220 := hg_13.2.2.2.2.2.2.2.2.2.2.2.1
theorem hk_221 : pm_hk 0 m_221 := hg_13.2.2.2.2.2.2.2.2.2.2.2.2.1
theorem hk_222 : pm_hk 0 m_222 := hg_13.2.2.2.2.2.2.2.2.2.2.2.2.2.1
theorem hk_223 : pm_hk 0 m_223 := hg_13.2.2.2.2.2.2.2.2.2.2.2.2.2.2.1
theorem hk_224 : pm_hk 0 m_224 := hg_13.2.2.2.2.2.2.2.2.2.2.2.2.2.2.2
