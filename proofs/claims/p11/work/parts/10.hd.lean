section
/-! THE METHODS: their heads and links, by the places of the words (printed by wip/gen/gen10.py). -/
def pm_hk (kind : Nat) (m2 : pm_M) : Prop := match kind with
  | 0 => pm_hd m2 (pm_n m2 - 1) ∧ Cond.instanceMethod (pm_y m2) ∈ lw_gt ∧ Cond.selects (pm_y m2).cls (pm_y m2) (pm_y m2) ∈ lw_gt ∧ kN (pm_o m2) = (pm_y m2).cls ∧ pm_o m2 < 8
  | 1 => pm_hd m2 (pm_n m2 - 1) ∧ Cond.instanceMethod (pm_y m2) ∈ lw_gt ∧ (pm_y m2).name = "<init>" ∧ pm_rt m2 = none
  | _ => pm_hd m2 (pm_n m2) ∧ Cond.static (pm_y m2) ∈ lw_gt
theorem lw_gd {w : Cond} (d i : Nat) (h : (lw_tbl.drop d)[i]? = some w) (hg : goodWord w = true) : w ∈ lw_gt := lw_gi (d + i) (by rw [← List.getElem?_drop]; exact h) hg
set_option maxRecDepth 100000 in
theorem hi_0 : Cond.initialized "MoodTown" ∈ lw_gt := lw_gd 0 59 rfl rfl
theorem hc_0 : "MoodTown" ≠ "java/lang/invoke/MethodHandle" := by decide +kernel
theorem hv_0 : "MoodTown" ≠ "java/lang/invoke/VarHandle" := by decide +kernel
theorem hp_0 : (parseMethodDescriptor "()V").map (fun d => d.parameters.length) = some 0 := by decide +kernel
set_option maxRecDepth 100000 in
theorem hi_1 : Cond.initialized "MoodTown$Tape" ∈ lw_gt := lw_gd 0 60 rfl rfl
theorem hc_1 : "MoodTown$Tape" ≠ "java/lang/invoke/MethodHandle" := by decide +kernel
theorem hv_1 : "MoodTown$Tape" ≠ "java/lang/invoke/VarHandle" := by decide +kernel
set_option maxRecDepth 100000 in
theorem hi_2 : Cond.initialized "MoodTown$Telling" ∈ lw_gt := lw_gd 0 61 rfl rfl
theorem hc_2 : "MoodTown$Telling" ≠ "java/lang/invoke/MethodHandle" := by decide +kernel
theorem hv_2 : "MoodTown$Telling" ≠ "java/lang/invoke/VarHandle" := by decide +kernel
theorem hp_1 : (parseMethodDescriptor "(LMoodTown$Tape;)V").map (fun d => d.parameters.length) = some 1 := by decide +kernel
set_option maxRecDepth 100000 in
theorem hi_3 : Cond.initialized "MoodTown$Town" ∈ lw_gt := lw_gd 0 62 rfl rfl
theorem hc_3 : "MoodTown$Town" ≠ "java/lang/invoke/MethodHandle" := by decide +kernel
theorem hv_3 : "MoodTown$Town" ≠ "java/lang/invoke/VarHandle" := by decide +kernel
set_option maxRecDepth 100000 in
theorem hi_4 : Cond.initialized "java/util/Arrays" ∈ lw_gt := lw_gd 0 63 rfl rfl
theorem hc_4 : "java/util/Arrays" ≠ "java/lang/invoke/MethodHandle" := by decide +kernel
theorem hv_4 : "java/util/Arrays" ≠ "java/lang/invoke/VarHandle" := by decide +kernel
theorem hp_2 : (parseMethodDescriptor "([II)V").map (fun d => d.parameters.length) = some 2 := by decide +kernel
set_option maxRecDepth 100000 in
theorem hi_5 : Cond.initialized "MoodTown$Walk" ∈ lw_gt := lw_gd 64 0 rfl rfl
theorem hc_5 : "MoodTown$Walk" ≠ "java/lang/invoke/MethodHandle" := by decide +kernel
theorem hv_5 : "MoodTown$Walk" ≠ "java/lang/invoke/VarHandle" := by decide +kernel
set_option maxRecDepth 100000 in
theorem hi_6 : Cond.initialized "MoodTown$Search" ∈ lw_gt := lw_gd 64 1 rfl rfl
theorem hc_6 : "MoodTown$Search" ≠ "java/lang/invoke/MethodHandle" := by decide +kernel
theorem hv_6 : "MoodTown$Search" ≠ "java/lang/invoke/VarHandle" := by decide +kernel
theorem hp_3 : (parseMethodDescriptor "(LMoodTown$Walk;)V").map (fun d => d.parameters.length) = some 1 := by decide +kernel
set_option maxRecDepth 100000 in
theorem hi_7 : Cond.initialized "MoodTown$Sheet" ∈ lw_gt := lw_gd 64 2 rfl rfl
theorem hc_7 : "MoodTown$Sheet" ≠ "java/lang/invoke/MethodHandle" := by decide +kernel
theorem hv_7 : "MoodTown$Sheet" ≠ "java/lang/invoke/VarHandle" := by decide +kernel
theorem hp_4 : (parseMethodDescriptor "(I)I").map (fun d => d.parameters.length) = some 1 := by decide +kernel
theorem hp_5 : (parseMethodDescriptor "(I)Z").map (fun d => d.parameters.length) = some 1 := by decide +kernel
theorem hp_6 : (parseMethodDescriptor "()I").map (fun d => d.parameters.length) = some 0 := by decide +kernel
theorem hp_7 : (parseMethodDescriptor "(II)V").map (fun d => d.parameters.length) = some 2 := by decide +kernel
theorem hp_8 : (parseMethodDescriptor "(Ljava/lang/String;)Z").map (fun d => d.parameters.length) = some 1 := by decide +kernel
theorem hp_9 : (parseMethodDescriptor "(Z)V").map (fun d => d.parameters.length) = some 1 := by decide +kernel
theorem hp_10 : (parseMethodDescriptor "(II)I").map (fun d => d.parameters.length) = some 2 := by decide +kernel
theorem hp_11 : (parseMethodDescriptor "(I)V").map (fun d => d.parameters.length) = some 1 := by decide +kernel
theorem hp_12 : (parseMethodDescriptor "(III)V").map (fun d => d.parameters.length) = some 3 := by decide +kernel
theorem hp_13 : (parseMethodDescriptor "()Z").map (fun d => d.parameters.length) = some 0 := by decide +kernel
theorem hp_14 : (parseMethodDescriptor "(LMoodTown$Town;)V").map (fun d => d.parameters.length) = some 1 := by decide +kernel
theorem hp_15 : (parseMethodDescriptor "(II)Z").map (fun d => d.parameters.length) = some 2 := by decide +kernel
theorem hp_16 : (parseMethodDescriptor "(IZ)I").map (fun d => d.parameters.length) = some 2 := by decide +kernel
theorem hp_17 : (parseMethodDescriptor "(LMoodTown$Town;II)V").map (fun d => d.parameters.length) = some 3 := by decide +kernel
set_option maxRecDepth 100000 in
theorem hi_8 : Cond.initialized "java/lang/Math" ∈ lw_gt := lw_gd 64 9 rfl rfl
theorem hc_8 : "java/lang/Math" ≠ "java/lang/invoke/MethodHandle" := by decide +kernel
theorem hv_8 : "java/lang/Math" ≠ "java/lang/invoke/VarHandle" := by decide +kernel
set_option maxRecDepth 100000 in
theorem hi_9 : Cond.initialized "java/lang/Integer" ∈ lw_gt := lw_gd 64 10 rfl rfl
theorem hc_9 : "java/lang/Integer" ≠ "java/lang/invoke/MethodHandle" := by decide +kernel
theorem hv_9 : "java/lang/Integer" ≠ "java/lang/invoke/VarHandle" := by decide +kernel
theorem hp_18 : (parseMethodDescriptor "(LMoodTown$Town;)I").map (fun d => d.parameters.length) = some 1 := by decide +kernel
theorem hp_19 : (parseMethodDescriptor "(LMoodTown$Town;I)V").map (fun d => d.parameters.length) = some 2 := by decide +kernel
theorem hp_20 : (parseMethodDescriptor "(III)I").map (fun d => d.parameters.length) = some 3 := by decide +kernel
theorem hp_21 : (parseMethodDescriptor "(LMoodTown$Town;I)LMoodTown$Town;").map (fun d => d.parameters.length) = some 2 := by decide +kernel
theorem hp_22 : (parseMethodDescriptor "()J").map (fun d => d.parameters.length) = some 0 := by decide +kernel
theorem hp_23 : (parseMethodDescriptor "(LMoodTown$Town;I)I").map (fun d => d.parameters.length) = some 2 := by decide +kernel
theorem hp_24 : (parseMethodDescriptor "(LMoodTown$Town;II)Z").map (fun d => d.parameters.length) = some 3 := by decide +kernel
theorem hp_25 : (parseMethodDescriptor "(IIII)I").map (fun d => d.parameters.length) = some 4 := by decide +kernel
theorem hp_26 : (parseMethodDescriptor "(LMoodTown$Town;III)I").map (fun d => d.parameters.length) = some 4 := by decide +kernel
theorem hp_27 : (parseMethodDescriptor "(LMoodTown$Town;III)V").map (fun d => d.parameters.length) = some 4 := by decide +kernel
theorem hp_28 : (parseMethodDescriptor "(LMoodTown$Town;II)I").map (fun d => d.parameters.length) = some 3 := by decide +kernel
theorem hp_29 : (parseMethodDescriptor "(III)J").map (fun d => d.parameters.length) = some 3 := by decide +kernel
theorem hp_30 : (parseMethodDescriptor "(LMoodTown$Town;II)J").map (fun d => d.parameters.length) = some 3 := by decide +kernel
theorem hp_31 : (parseMethodDescriptor "(JJ)J").map (fun d => d.parameters.length) = some 2 := by decide +kernel
theorem hp_32 : (parseMethodDescriptor "(LMoodTown$Town;I)Z").map (fun d => d.parameters.length) = some 2 := by decide +kernel
theorem hp_33 : (parseMethodDescriptor "(LMoodTown$Sheet;I)Z").map (fun d => d.parameters.length) = some 2 := by decide +kernel
set_option maxRecDepth 100000 in
theorem hi_10 : Cond.initialized "MoodTownModel" ∈ lw_gt := lw_gd 64 3 rfl rfl
theorem hc_10 : "MoodTownModel" ≠ "java/lang/invoke/MethodHandle" := by decide +kernel
theorem hv_10 : "MoodTownModel" ≠ "java/lang/invoke/VarHandle" := by decide +kernel
theorem hp_34 : (parseMethodDescriptor "(JJJ)Z").map (fun d => d.parameters.length) = some 3 := by decide +kernel
theorem hp_35 : (parseMethodDescriptor "(ZI)V").map (fun d => d.parameters.length) = some 2 := by decide +kernel
theorem hp_36 : (parseMethodDescriptor "(III)Z").map (fun d => d.parameters.length) = some 3 := by decide +kernel
theorem hp_37 : (parseMethodDescriptor "(Z)I").map (fun d => d.parameters.length) = some 1 := by decide +kernel
set_option maxRecDepth 100000 in
theorem hg_0 : pm_hk 1 m_1 ∧ pm_hk 1 m_2 ∧ pm_hk 1 m_3 ∧ pm_hk 1 m_4 ∧ pm_hk 0 m_5 ∧ pm_hk 2 m_6 ∧ pm_hk 1 m_7 ∧ pm_hk 1 m_8 ∧ pm_hk 1 m_9 ∧ pm_hk 0 m_10 ∧ pm_hk 0 m_11 ∧ pm_hk 0 m_12 ∧ pm_hk 0 m_13 ∧ pm_hk 0 m_14 ∧ pm_hk 0 m_15 ∧ pm_hk 0 m_16 := ⟨⟨⟨lw_gd 64 15 rfl rfl, hi_0, hc_0, hv_0, hp_0⟩, lw_gd 64 14 rfl rfl, rfl, rfl⟩, ⟨⟨lw_gd 64 23 rfl rfl, hi_1, hc_1, hv_1, hp_0⟩, lw_gd 64 22 rfl rfl, rfl, rfl⟩, ⟨⟨lw_gd 64 54 rfl rfl, hi_2, hc_2, hv_2, hp_1⟩, lw_gd 64 53 rfl rfl, rfl, rfl⟩, ⟨⟨lw_gd 64 60 rfl rfl, hi_3, hc_3, hv_3, hp_0⟩, lw_gd 64 59 rfl rfl, rfl, rfl⟩, ⟨⟨lw_gd 128 1 rfl rfl, hi_3, hc_3, hv_3, hp_0⟩, lw_gd 64 63 rfl rfl, lw_gd 128 0 rfl rfl, rfl, by decide⟩, ⟨⟨lw_gd 128 4 rfl rfl, hi_4, hc_4, hv_4, hp_2⟩, lw_gd 128 3 rfl rfl⟩, ⟨⟨lw_gd 192 59 rfl rfl, hi_5, hc_5, hv_5, hp_0⟩, lw_gd 192 58 rfl rfl, rfl, rfl⟩, ⟨⟨lw_gd 256 28 rfl rfl, hi_6, hc_6, hv_6, hp_3⟩, lw_gd 256 27 rfl rfl, rfl, rfl⟩, ⟨⟨lw_gd 256 49 rfl rfl, hi_7, hc_7, hv_7, hp_0⟩, lw_gd 256 48 rfl rfl, rfl, rfl⟩, ⟨⟨lw_gd 320 30 rfl rfl, hi_0, hc_0, hv_0, hp_4⟩, lw_gd 320 28 rfl rfl, lw_gd 320 29 rfl rfl, rfl, by decide⟩, ⟨⟨lw_gd 320 34 rfl rfl, hi_1, hc_1, hv_1, hp_5⟩, lw_gd 320 32 rfl rfl, lw_gd 320 33 rfl rfl, rfl, by decide⟩, ⟨⟨lw_gd 320 38 rfl rfl, hi_0, hc_0, hv_0, hp_4⟩, lw_gd 320 36 rfl rfl, lw_gd 320 37 rfl rfl, rfl, by decide⟩, ⟨⟨lw_gd 320 42 rfl rfl, hi_0, hc_0, hv_0, hp_6⟩, lw_gd 320 40 rfl rfl, lw_gd 320 41 rfl rfl, rfl, by decide⟩, ⟨⟨lw_gd 320 46 rfl rfl, hi_2, hc_2, hv_2, hp_0⟩, lw_gd 320 44 rfl rfl, lw_gd 320 45 rfl rfl, rfl, by decide⟩, ⟨⟨lw_gd 320 51 rfl rfl, hi_1, hc_1, hv_1, hp_0⟩, lw_gd 320 49 rfl rfl, lw_gd 320 50 rfl rfl, rfl, by decide⟩, ⟨⟨lw_gd 320 55 rfl rfl, hi_1, hc_1, hv_1, hp_0⟩, lw_gd 320 53 rfl rfl, lw_gd 320 54 rfl rfl, rfl, by decide⟩⟩
theorem hk_1 : pm_hk 1 m_1 := hg_0.1
theorem hk_2 : pm_hk 1 m_2 := hg_0.2.1
theorem hk_3 : pm_hk 1 m_3 := hg_0.2.2.1
theorem hk_4 : pm_hk 1 m_4 := hg_0.2.2.2.1
theorem hk_5 : pm_hk 0 m_5 := hg_0.2.2.2.2.1
theorem hk_6 : pm_hk 2 m_6 := hg_0.2.2.2.2.2.1
theorem hk_7 : pm_hk 1 m_7 := hg_0.2.2.2.2.2.2.1
theorem hk_8 : pm_hk 1 m_8 := hg_0.2.2.2.2.2.2.2.1
theorem hk_9 : pm_hk 1 m_9 := hg_0.2.2.2.2.2.2.2.2.1
theorem hk_10 : pm_hk 0 m_10 := hg_0.2.2.2.2.2.2.2.2.2.1
theorem hk_11 : pm_hk 0 m_11 := hg_0.2.2.2.2.2.2.2.2.2.2.1
theorem hk_12 : pm_hk 0 m_12 := hg_0.2.2.2.2.2.2.2.2.2.2.2.1
theorem hk_13 : pm_hk 0 m_13 := hg_0.2.2.2.2.2.2.2.2.2.2.2.2.1
theorem hk_14 : pm_hk 0 m_14 := hg_0.2.2.2.2.2.2.2.2.2.2.2.2.2.1
theorem hk_15 : pm_hk 0 m_15 := hg_0.2.2.2.2.2.2.2.2.2.2.2.2.2.2.1
theorem hk_16 : pm_hk 0 m_16 := hg_0.2.2.2.2.2.2.2.2.2.2.2.2.2.2.2
set_option maxRecDepth 100000 in
theorem hg_1 : pm_hk 2 m_17 ∧ pm_hk 0 m_18 ∧ pm_hk 0 m_19 ∧ pm_hk 0 m_20 ∧ pm_hk 0 m_21 ∧ pm_hk 0 m_22 ∧ pm_hk 0 m_23 ∧ pm_hk 0 m_24 ∧ pm_hk 0 m_25 ∧ pm_hk 0 m_26 ∧ pm_hk 0 m_27 ∧ pm_hk 0 m_28 ∧ pm_hk 0 m_29 ∧ pm_hk 0 m_30 ∧ pm_hk 0 m_31 ∧ pm_hk 0 m_32 := ⟨⟨⟨lw_gd 320 58 rfl rfl, hi_1, hc_1, hv_1, hp_4⟩, lw_gd 320 57 rfl rfl⟩, ⟨⟨lw_gd 320 62 rfl rfl, hi_1, hc_1, hv_1, hp_0⟩, lw_gd 320 61 rfl rfl, lw_gd 0 0 rfl rfl, rfl, by decide⟩, ⟨⟨lw_gd 384 2 rfl rfl, hi_2, hc_2, hv_2, hp_0⟩, lw_gd 384 1 rfl rfl, lw_gd 0 1 rfl rfl, rfl, by decide⟩, ⟨⟨lw_gd 384 6 rfl rfl, hi_2, hc_2, hv_2, hp_7⟩, lw_gd 384 5 rfl rfl, lw_gd 0 2 rfl rfl, rfl, by decide⟩, ⟨⟨lw_gd 384 11 rfl rfl, hi_1, hc_1, hv_1, hp_8⟩, lw_gd 384 9 rfl rfl, lw_gd 384 10 rfl rfl, rfl, by decide⟩, ⟨⟨lw_gd 384 63 rfl rfl, hi_2, hc_2, hv_2, hp_0⟩, lw_gd 384 62 rfl rfl, lw_gd 0 3 rfl rfl, rfl, by decide⟩, ⟨⟨lw_gd 448 3 rfl rfl, hi_2, hc_2, hv_2, hp_9⟩, lw_gd 448 2 rfl rfl, lw_gd 0 4 rfl rfl, rfl, by decide⟩, ⟨⟨lw_gd 448 7 rfl rfl, hi_2, hc_2, hv_2, hp_10⟩, lw_gd 448 6 rfl rfl, lw_gd 0 5 rfl rfl, rfl, by decide⟩, ⟨⟨lw_gd 448 11 rfl rfl, hi_2, hc_2, hv_2, hp_5⟩, lw_gd 448 10 rfl rfl, lw_gd 0 6 rfl rfl, rfl, by decide⟩, ⟨⟨lw_gd 448 16 rfl rfl, hi_2, hc_2, hv_2, hp_0⟩, lw_gd 448 15 rfl rfl, lw_gd 0 7 rfl rfl, rfl, by decide⟩, ⟨⟨lw_gd 448 20 rfl rfl, hi_2, hc_2, hv_2, hp_11⟩, lw_gd 448 19 rfl rfl, lw_gd 0 8 rfl rfl, rfl, by decide⟩, ⟨⟨lw_gd 448 24 rfl rfl, hi_3, hc_3, hv_3, hp_5⟩, lw_gd 448 22 rfl rfl, lw_gd 448 23 rfl rfl, rfl, by decide⟩, ⟨⟨lw_gd 448 28 rfl rfl, hi_3, hc_3, hv_3, hp_5⟩, lw_gd 448 26 rfl rfl, lw_gd 448 27 rfl rfl, rfl, by decide⟩, ⟨⟨lw_gd 448 32 rfl rfl, hi_3, hc_3, hv_3, hp_4⟩, lw_gd 448 30 rfl rfl, lw_gd 448 31 rfl rfl, rfl, by decide⟩, ⟨⟨lw_gd 448 37 rfl rfl, hi_2, hc_2, hv_2, hp_11⟩, lw_gd 448 36 rfl rfl, lw_gd 0 9 rfl rfl, rfl, by decide⟩, ⟨⟨lw_gd 448 41 rfl rfl, hi_3, hc_3, hv_3, hp_12⟩, lw_gd 448 39 rfl rfl, lw_gd 448 40 rfl rfl, rfl, by decide⟩⟩
theorem hk_17 : pm_hk 2 m_17 := hg_1.1
theorem hk_18 : pm_hk 0 m_18 := hg_1.2.1
theorem hk_19 : pm_hk 0 m_19 := hg_1.2.2.1
theorem hk_20 : pm_hk 0 m_20 := hg_1.2.2.2.1
theorem hk_21 : pm_hk 0 m_21 := hg_1.2.2.2.2.1
theorem hk_22 : pm_hk 0 m_22 := hg_1.2.2.2.2.2.1
theorem hk_23 : pm_hk 0 m_23 := hg_1.2.2.2.2.2.2.1
theorem hk_24 : pm_hk 0 m_24 := hg_1.2.2.2.2.2.2.2.1
theorem hk_25 : pm_hk 0 m_25 := hg_1.2.2.2.2.2.2.2.2.1
theorem hk_26 : pm_hk 0 m_26 := hg_1.2.2.2.2.2.2.2.2.2.1
theorem hk_27 : pm_hk 0 m_27 := hg_1.2.2.2.2.2.2.2.2.2.2.1
theorem hk_28 : pm_hk 0 m_28 := hg_1.2.2.2.2.2.2.2.2.2.2.2.1
theorem hk_29 : pm_hk 0 m_29 := hg_1.2.2.2.2.2.2.2.2.2.2.2.2.1
theorem hk_30 : pm_hk 0 m_30 := hg_1.2.2.2.2.2.2.2.2.2.2.2.2.2.1
theorem hk_31 : pm_hk 0 m_31 := hg_1.2.2.2.2.2.2.2.2.2.2.2.2.2.2.1
theorem hk_32 : pm_hk 0 m_32 := hg_1.2.2.2.2.2.2.2.2.2.2.2.2.2.2.2
set_option maxRecDepth 100000 in
theorem hg_2 : pm_hk 0 m_33 ∧ pm_hk 0 m_34 ∧ pm_hk 0 m_35 ∧ pm_hk 0 m_36 ∧ pm_hk 0 m_37 ∧ pm_hk 0 m_38 ∧ pm_hk 0 m_39 ∧ pm_hk 0 m_40 ∧ pm_hk 0 m_41 ∧ pm_hk 0 m_42 ∧ pm_hk 0 m_43 ∧ pm_hk 0 m_44 ∧ pm_hk 0 m_45 ∧ pm_hk 0 m_46 ∧ pm_hk 0 m_47 ∧ pm_hk 2 m_48 := ⟨⟨⟨lw_gd 448 47 rfl rfl, hi_2, hc_2, hv_2, hp_0⟩, lw_gd 448 46 rfl rfl, lw_gd 0 10 rfl rfl, rfl, by decide⟩, ⟨⟨lw_gd 448 52 rfl rfl, hi_2, hc_2, hv_2, hp_0⟩, lw_gd 448 51 rfl rfl, lw_gd 0 11 rfl rfl, rfl, by decide⟩, ⟨⟨lw_gd 448 57 rfl rfl, hi_2, hc_2, hv_2, hp_0⟩, lw_gd 448 56 rfl rfl, lw_gd 0 12 rfl rfl, rfl, by decide⟩, ⟨⟨lw_gd 448 61 rfl rfl, hi_2, hc_2, hv_2, hp_0⟩, lw_gd 448 60 rfl rfl, lw_gd 0 13 rfl rfl, rfl, by decide⟩, ⟨⟨lw_gd 512 1 rfl rfl, hi_2, hc_2, hv_2, hp_13⟩, lw_gd 512 0 rfl rfl, lw_gd 0 14 rfl rfl, rfl, by decide⟩, ⟨⟨lw_gd 512 5 rfl rfl, hi_3, hc_3, hv_3, hp_5⟩, lw_gd 512 3 rfl rfl, lw_gd 512 4 rfl rfl, rfl, by decide⟩, ⟨⟨lw_gd 512 9 rfl rfl, hi_3, hc_3, hv_3, hp_6⟩, lw_gd 512 7 rfl rfl, lw_gd 512 8 rfl rfl, rfl, by decide⟩, ⟨⟨lw_gd 512 13 rfl rfl, hi_3, hc_3, hv_3, hp_5⟩, lw_gd 512 11 rfl rfl, lw_gd 512 12 rfl rfl, rfl, by decide⟩, ⟨⟨lw_gd 512 18 rfl rfl, hi_3, hc_3, hv_3, hp_14⟩, lw_gd 512 16 rfl rfl, lw_gd 512 17 rfl rfl, rfl, by decide⟩, ⟨⟨lw_gd 512 22 rfl rfl, hi_3, hc_3, hv_3, hp_14⟩, lw_gd 512 20 rfl rfl, lw_gd 512 21 rfl rfl, rfl, by decide⟩, ⟨⟨lw_gd 512 29 rfl rfl, hi_0, hc_0, hv_0, hp_6⟩, lw_gd 512 27 rfl rfl, lw_gd 512 28 rfl rfl, rfl, by decide⟩, ⟨⟨lw_gd 512 33 rfl rfl, hi_0, hc_0, hv_0, hp_4⟩, lw_gd 512 31 rfl rfl, lw_gd 512 32 rfl rfl, rfl, by decide⟩, ⟨⟨lw_gd 512 37 rfl rfl, hi_0, hc_0, hv_0, hp_10⟩, lw_gd 512 35 rfl rfl, lw_gd 512 36 rfl rfl, rfl, by decide⟩, ⟨⟨lw_gd 512 42 rfl rfl, hi_0, hc_0, hv_0, hp_4⟩, lw_gd 512 40 rfl rfl, lw_gd 512 41 rfl rfl, rfl, by decide⟩, ⟨⟨lw_gd 512 48 rfl rfl, hi_0, hc_0, hv_0, hp_10⟩, lw_gd 512 46 rfl rfl, lw_gd 512 47 rfl rfl, rfl, by decide⟩, ⟨⟨lw_gd 512 51 rfl rfl, hi_0, hc_0, hv_0, hp_5⟩, lw_gd 512 50 rfl rfl⟩⟩
theorem hk_33 : pm_hk 0 m_33 := hg_2.1
theorem hk_34 : pm_hk 0 m_34 := hg_2.2.1
theorem hk_35 : pm_hk 0 m_35 := hg_2.2.2.1
theorem hk_36 : pm_hk 0 m_36 := hg_2.2.2.2.1
theorem hk_37 : pm_hk 0 m_37 := hg_2.2.2.2.2.1
theorem hk_38 : pm_hk 0 m_38 := hg_2.2.2.2.2.2.1
theorem hk_39 : pm_hk 0 m_39 := hg_2.2.2.2.2.2.2.1
theorem hk_40 : pm_hk 0 m_40 := hg_2.2.2.2.2.2.2.2.1
theorem hk_41 : pm_hk 0 m_41 := hg_2.2.2.2.2.2.2.2.2.1
theorem hk_42 : pm_hk 0 m_42 := hg_2.2.2.2.2.2.2.2.2.2.1
theorem hk_43 : pm_hk 0 m_43 := hg_2.2.2.2.2.2.2.2.2.2.2.1
theorem hk_44 : pm_hk 0 m_44 := hg_2.2.2.2.2.2.2.2.2.2.2.2.1
theorem hk_45 : pm_hk 0 m_45 := hg_2.2.2.2.2.2.2.2.2.2.2.2.2.1
theorem hk_46 : pm_hk 0 m_46 := hg_2.2.2.2.2.2.2.2.2.2.2.2.2.2.1
theorem hk_47 : pm_hk 0 m_47 := hg_2.2.2.2.2.2.2.2.2.2.2.2.2.2.2.1
theorem hk_48 : pm_hk 2 m_48 := hg_2.2.2.2.2.2.2.2.2.2.2.2.2.2.2.2
set_option maxRecDepth 100000 in
theorem hg_3 : pm_hk 0 m_49 ∧ pm_hk 0 m_50 ∧ pm_hk 0 m_51 ∧ pm_hk 0 m_52 ∧ pm_hk 0 m_53 ∧ pm_hk 0 m_54 ∧ pm_hk 0 m_55 ∧ pm_hk 0 m_56 ∧ pm_hk 2 m_57 ∧ pm_hk 0 m_58 ∧ pm_hk 0 m_59 ∧ pm_hk 0 m_60 ∧ pm_hk 0 m_61 ∧ pm_hk 2 m_62 ∧ pm_hk 2 m_63 ∧ pm_hk 2 m_64 := ⟨⟨⟨lw_gd 512 55 rfl rfl, hi_0, hc_0, hv_0, hp_10⟩, lw_gd 512 53 rfl rfl, lw_gd 512 54 rfl rfl, rfl, by decide⟩, ⟨⟨lw_gd 512 59 rfl rfl, hi_3, hc_3, hv_3, hp_15⟩, lw_gd 512 57 rfl rfl, lw_gd 512 58 rfl rfl, rfl, by decide⟩, ⟨⟨lw_gd 576 0 rfl rfl, hi_0, hc_0, hv_0, hp_16⟩, lw_gd 512 62 rfl rfl, lw_gd 512 63 rfl rfl, rfl, by decide⟩, ⟨⟨lw_gd 576 4 rfl rfl, hi_0, hc_0, hv_0, hp_10⟩, lw_gd 576 2 rfl rfl, lw_gd 576 3 rfl rfl, rfl, by decide⟩, ⟨⟨lw_gd 576 8 rfl rfl, hi_0, hc_0, hv_0, hp_16⟩, lw_gd 576 6 rfl rfl, lw_gd 576 7 rfl rfl, rfl, by decide⟩, ⟨⟨lw_gd 576 13 rfl rfl, hi_0, hc_0, hv_0, hp_10⟩, lw_gd 576 11 rfl rfl, lw_gd 576 12 rfl rfl, rfl, by decide⟩, ⟨⟨lw_gd 576 17 rfl rfl, hi_0, hc_0, hv_0, hp_4⟩, lw_gd 576 15 rfl rfl, lw_gd 576 16 rfl rfl, rfl, by decide⟩, ⟨⟨lw_gd 576 21 rfl rfl, hi_0, hc_0, hv_0, hp_10⟩, lw_gd 576 19 rfl rfl, lw_gd 576 20 rfl rfl, rfl, by decide⟩, ⟨⟨lw_gd 576 24 rfl rfl, hi_0, hc_0, hv_0, hp_5⟩, lw_gd 576 23 rfl rfl⟩, ⟨⟨lw_gd 576 28 rfl rfl, hi_5, hc_5, hv_5, hp_14⟩, lw_gd 576 26 rfl rfl, lw_gd 576 27 rfl rfl, rfl, by decide⟩, ⟨⟨lw_gd 576 32 rfl rfl, hi_3, hc_3, hv_3, hp_4⟩, lw_gd 576 30 rfl rfl, lw_gd 576 31 rfl rfl, rfl, by decide⟩, ⟨⟨lw_gd 576 36 rfl rfl, hi_3, hc_3, hv_3, hp_4⟩, lw_gd 576 34 rfl rfl, lw_gd 576 35 rfl rfl, rfl, by decide⟩, ⟨⟨lw_gd 576 40 rfl rfl, hi_5, hc_5, hv_5, hp_17⟩, lw_gd 576 39 rfl rfl, lw_gd 0 15 rfl rfl, rfl, by decide⟩, ⟨⟨lw_gd 576 43 rfl rfl, hi_8, hc_8, hv_8, hp_4⟩, lw_gd 576 42 rfl rfl⟩, ⟨⟨lw_gd 576 46 rfl rfl, hi_9, hc_9, hv_9, hp_10⟩, lw_gd 576 45 rfl rfl⟩, ⟨⟨lw_gd 576 49 rfl rfl, hi_5, hc_5, hv_5, hp_10⟩, lw_gd 576 48 rfl rfl⟩⟩
theorem hk_49 : pm_hk 0 m_49 := hg_3.1
theorem hk_50 : pm_hk 0 m_50 := hg_3.2.1
theorem hk_51 : pm_hk 0 m_51 := hg_3.2.2.1
theorem hk_52 : pm_hk 0 m_52 := hg_3.2.2.2.1
theorem hk_53 : pm_hk 0 m_53 := hg_3.2.2.2.2.1
theorem hk_54 : pm_hk 0 m_54 := hg_3.2.2.2.2.2.1
theorem hk_55 : pm_hk 0 m_55 := hg_3.2.2.2.2.2.2.1
theorem hk_56 : pm_hk 0 m_56 := hg_3.2.2.2.2.2.2.2.1
theorem hk_57 : pm_hk 2 m_57 := hg_3.2.2.2.2.2.2.2.2.1
theorem hk_58 : pm_hk 0 m_58 := hg_3.2.2.2.2.2.2.2.2.2.1
theorem hk_59 : pm_hk 0 m_59 := hg_3.2.2.2.2.2.2.2.2.2.2.1
theorem hk_60 : pm_hk 0 m_60 := hg_3.2.2.2.2.2.2.2.2.2.2.2.1
theorem hk_61 : pm_hk 0 m_61 := hg_3.2.2.2.2.2.2.2.2.2.2.2.2.1
theorem hk_62 : pm_hk 2 m_62 := hg_3.2.2.2.2.2.2.2.2.2.2.2.2.2.1
theorem hk_63 : pm_hk 2 m_63 := hg_3.2.2.2.2.2.2.2.2.2.2.2.2.2.2.1
theorem hk_64 : pm_hk 2 m_64 := hg_3.2.2.2.2.2.2.2.2.2.2.2.2.2.2.2
set_option maxRecDepth 100000 in
theorem hg_4 : pm_hk 0 m_65 ∧ pm_hk 0 m_66 ∧ pm_hk 0 m_67 ∧ pm_hk 0 m_68 ∧ pm_hk 0 m_69 ∧ pm_hk 0 m_70 ∧ pm_hk 0 m_71 ∧ pm_hk 2 m_72 ∧ pm_hk 0 m_73 ∧ pm_hk 0 m_74 ∧ pm_hk 0 m_75 ∧ pm_hk 0 m_76 ∧ pm_hk 0 m_77 ∧ pm_hk 0 m_78 ∧ pm_hk 0 m_79 ∧ pm_hk 0 m_80 := ⟨⟨⟨lw_gd 576 53 rfl rfl, hi_0, hc_0, hv_0, hp_4⟩, lw_gd 576 51 rfl rfl, lw_gd 576 52 rfl rfl, rfl, by decide⟩, ⟨⟨lw_gd 576 57 rfl rfl, hi_0, hc_0, hv_0, hp_6⟩, lw_gd 576 55 rfl rfl, lw_gd 576 56 rfl rfl, rfl, by decide⟩, ⟨⟨lw_gd 576 61 rfl rfl, hi_6, hc_6, hv_6, hp_18⟩, lw_gd 576 59 rfl rfl, lw_gd 576 60 rfl rfl, rfl, by decide⟩, ⟨⟨lw_gd 640 2 rfl rfl, hi_5, hc_5, hv_5, hp_14⟩, lw_gd 640 0 rfl rfl, lw_gd 640 1 rfl rfl, rfl, by decide⟩, ⟨⟨lw_gd 640 7 rfl rfl, hi_5, hc_5, hv_5, hp_14⟩, lw_gd 640 6 rfl rfl, lw_gd 0 16 rfl rfl, rfl, by decide⟩, ⟨⟨lw_gd 640 11 rfl rfl, hi_5, hc_5, hv_5, hp_14⟩, lw_gd 640 10 rfl rfl, lw_gd 0 17 rfl rfl, rfl, by decide⟩, ⟨⟨lw_gd 640 15 rfl rfl, hi_5, hc_5, hv_5, hp_10⟩, lw_gd 640 14 rfl rfl, lw_gd 0 18 rfl rfl, rfl, by decide⟩, ⟨⟨lw_gd 640 18 rfl rfl, hi_0, hc_0, hv_0, hp_4⟩, lw_gd 640 17 rfl rfl⟩, ⟨⟨lw_gd 640 22 rfl rfl, hi_5, hc_5, hv_5, hp_5⟩, lw_gd 640 20 rfl rfl, lw_gd 640 21 rfl rfl, rfl, by decide⟩, ⟨⟨lw_gd 640 26 rfl rfl, hi_0, hc_0, hv_0, hp_6⟩, lw_gd 640 24 rfl rfl, lw_gd 640 25 rfl rfl, rfl, by decide⟩, ⟨⟨lw_gd 640 31 rfl rfl, hi_0, hc_0, hv_0, hp_4⟩, lw_gd 640 29 rfl rfl, lw_gd 640 30 rfl rfl, rfl, by decide⟩, ⟨⟨lw_gd 640 35 rfl rfl, hi_5, hc_5, hv_5, hp_19⟩, lw_gd 640 33 rfl rfl, lw_gd 640 34 rfl rfl, rfl, by decide⟩, ⟨⟨lw_gd 640 40 rfl rfl, hi_5, hc_5, hv_5, hp_13⟩, lw_gd 640 38 rfl rfl, lw_gd 640 39 rfl rfl, rfl, by decide⟩, ⟨⟨lw_gd 640 44 rfl rfl, hi_3, hc_3, hv_3, hp_6⟩, lw_gd 640 42 rfl rfl, lw_gd 640 43 rfl rfl, rfl, by decide⟩, ⟨⟨lw_gd 640 48 rfl rfl, hi_0, hc_0, hv_0, hp_20⟩, lw_gd 640 46 rfl rfl, lw_gd 640 47 rfl rfl, rfl, by decide⟩, ⟨⟨lw_gd 640 52 rfl rfl, hi_6, hc_6, hv_6, hp_21⟩, lw_gd 640 50 rfl rfl, lw_gd 640 51 rfl rfl, rfl, by decide⟩⟩
theorem hk_65 : pm_hk 0 m_65 := hg_4.1
theorem hk_66 : pm_hk 0 m_66 := hg_4.2.1
theorem hk_67 : pm_hk 0 m_67 := hg_4.2.2.1
theorem hk_68 : pm_hk 0 m_68 := hg_4.2.2.2.1
theorem hk_69 : pm_hk 0 m_69 := hg_4.2.2.2.2.1
theorem hk_70 : pm_hk 0 m_70 := hg_4.2.2.2.2.2.1
theorem hk_71 : pm_hk 0 m_71 := hg_4.2.2.2.2.2.2.1
theorem hk_72 : pm_hk 2 m_72 := hg_4.2.2.2.2.2.2.2.1
theorem hk_73 : pm_hk 0 m_73 := hg_4.2.2.2.2.2.2.2.2.1
theorem hk_74 : pm_hk 0 m_74 := hg_4.2.2.2.2.2.2.2.2.2.1
theorem hk_75 : pm_hk 0 m_75 := hg_4.2.2.2.2.2.2.2.2.2.2.1
theorem hk_76 : pm_hk 0 m_76 := hg_4.2.2.2.2.2.2.2.2.2.2.2.1
theorem hk_77 : pm_hk 0 m_77 := hg_4.2.2.2.2.2.2.2.2.2.2.2.2.1
theorem hk_78 : pm_hk 0 m_78 := hg_4.2.2.2.2.2.2.2.2.2.2.2.2.2.1
theorem hk_79 : pm_hk 0 m_79 := hg_4.2.2.2.2.2.2.2.2.2.2.2.2.2.2.1
theorem hk_80 : pm_hk 0 m_80 := hg_4.2.2.2.2.2.2.2.2.2.2.2.2.2.2.2
set_option maxRecDepth 100000 in
theorem hg_5 : pm_hk 0 m_81 ∧ pm_hk 0 m_82 ∧ pm_hk 0 m_83 ∧ pm_hk 0 m_84 ∧ pm_hk 0 m_85 ∧ pm_hk 0 m_86 ∧ pm_hk 2 m_87 ∧ pm_hk 2 m_88 ∧ pm_hk 0 m_89 ∧ pm_hk 2 m_90 ∧ pm_hk 0 m_91 ∧ pm_hk 0 m_92 ∧ pm_hk 2 m_93 ∧ pm_hk 0 m_94 ∧ pm_hk 0 m_95 ∧ pm_hk 2 m_96 := ⟨⟨⟨lw_gd 640 57 rfl rfl, hi_0, hc_0, hv_0, hp_6⟩, lw_gd 640 55 rfl rfl, lw_gd 640 56 rfl rfl, rfl, by decide⟩, ⟨⟨lw_gd 640 61 rfl rfl, hi_6, hc_6, hv_6, hp_18⟩, lw_gd 640 59 rfl rfl, lw_gd 640 60 rfl rfl, rfl, by decide⟩, ⟨⟨lw_gd 704 1 rfl rfl, hi_6, hc_6, hv_6, hp_13⟩, lw_gd 704 0 rfl rfl, lw_gd 0 19 rfl rfl, rfl, by decide⟩, ⟨⟨lw_gd 704 6 rfl rfl, hi_0, hc_0, hv_0, hp_4⟩, lw_gd 704 4 rfl rfl, lw_gd 704 5 rfl rfl, rfl, by decide⟩, ⟨⟨lw_gd 704 10 rfl rfl, hi_6, hc_6, hv_6, hp_18⟩, lw_gd 704 8 rfl rfl, lw_gd 704 9 rfl rfl, rfl, by decide⟩, ⟨⟨lw_gd 704 14 rfl rfl, hi_3, hc_3, hv_3, hp_22⟩, lw_gd 704 12 rfl rfl, lw_gd 704 13 rfl rfl, rfl, by decide⟩, ⟨⟨lw_gd 704 18 rfl rfl, hi_6, hc_6, hv_6, hp_4⟩, lw_gd 704 17 rfl rfl⟩, ⟨⟨lw_gd 704 21 rfl rfl, hi_6, hc_6, hv_6, hp_4⟩, lw_gd 704 20 rfl rfl⟩, ⟨⟨lw_gd 704 25 rfl rfl, hi_0, hc_0, hv_0, hp_10⟩, lw_gd 704 23 rfl rfl, lw_gd 704 24 rfl rfl, rfl, by decide⟩, ⟨⟨lw_gd 704 28 rfl rfl, hi_0, hc_0, hv_0, hp_5⟩, lw_gd 704 27 rfl rfl⟩, ⟨⟨lw_gd 704 32 rfl rfl, hi_0, hc_0, hv_0, hp_5⟩, lw_gd 704 31 rfl rfl, lw_gd 0 20 rfl rfl, rfl, by decide⟩, ⟨⟨lw_gd 704 36 rfl rfl, hi_6, hc_6, hv_6, hp_23⟩, lw_gd 704 34 rfl rfl, lw_gd 704 35 rfl rfl, rfl, by decide⟩, ⟨⟨lw_gd 704 39 rfl rfl, hi_0, hc_0, hv_0, hp_4⟩, lw_gd 704 38 rfl rfl⟩, ⟨⟨lw_gd 704 43 rfl rfl, hi_3, hc_3, hv_3, hp_4⟩, lw_gd 704 41 rfl rfl, lw_gd 704 42 rfl rfl, rfl, by decide⟩, ⟨⟨lw_gd 704 47 rfl rfl, hi_3, hc_3, hv_3, hp_10⟩, lw_gd 704 45 rfl rfl, lw_gd 704 46 rfl rfl, rfl, by decide⟩, ⟨⟨lw_gd 704 50 rfl rfl, hi_0, hc_0, hv_0, hp_20⟩, lw_gd 704 49 rfl rfl⟩⟩
theorem hk_81 : pm_hk 0 m_81 := hg_5.1
theorem hk_82 : pm_hk 0 m_82 := hg_5.2.1
theorem hk_83 : pm_hk 0 m_83 := hg_5.2.2.1
theorem hk_84 : pm_hk 0 m_84 := hg_5.2.2.2.1
theorem hk_85 : pm_hk 0 m_85 := hg_5.2.2.2.2.1
theorem hk_86 : pm_hk 0 m_86 := hg_5.2.2.2.2.2.1
theorem hk_87 : pm_hk 2 m_87 := hg_5.2.2.2.2.2.2.1
theorem hk_88 : pm_hk 2 m_88 := hg_5.2.2.2.2.2.2.2.1
theorem hk_89 : pm_hk 0 m_89 := hg_5.2.2.2.2.2.2.2.2.1
theorem hk_90 : pm_hk 2 m_90 := hg_5.2.2.2.2.2.2.2.2.2.1
theorem hk_91 : pm_hk 0 m_91 := hg_5.2.2.2.2.2.2.2.2.2.2.1
theorem hk_92 : pm_hk 0 m_92 := hg_5.2.2.2.2.2.2.2.2.2.2.2.1
theorem hk_93 : pm_hk 2 m_93 := hg_5.2.2.2.2.2.2.2.2.2.2.2.2.1
theorem hk_94 : pm_hk 0 m_94 := hg_5.2.2.2.2.2.2.2.2.2.2.2.2.2.1
theorem hk_95 : pm_hk 0 m_95 := hg_5.2.2.2.2.2.2.2.2.2.2.2.2.2.2.1
theorem hk_96 : pm_hk 2 m_96 := hg_5.2.2.2.2.2.2.2.2.2.2.2.2.2.2.2
set_option maxRecDepth 100000 in
theorem hg_6 : pm_hk 0 m_97 ∧ pm_hk 0 m_98 ∧ pm_hk 0 m_99 ∧ pm_hk 0 m_100 ∧ pm_hk 0 m_101 ∧ pm_hk 0 m_102 ∧ pm_hk 0 m_103 ∧ pm_hk 0 m_104 ∧ pm_hk 0 m_105 ∧ pm_hk 0 m_106 ∧ pm_hk 0 m_107 ∧ pm_hk 0 m_108 ∧ pm_hk 0 m_109 ∧ pm_hk 0 m_110 ∧ pm_hk 0 m_111 ∧ pm_hk 0 m_112 := ⟨⟨⟨lw_gd 704 54 rfl rfl, hi_6, hc_6, hv_6, hp_24⟩, lw_gd 704 53 rfl rfl, lw_gd 0 21 rfl rfl, rfl, by decide⟩, ⟨⟨lw_gd 704 59 rfl rfl, hi_3, hc_3, hv_3, hp_11⟩, lw_gd 704 57 rfl rfl, lw_gd 704 58 rfl rfl, rfl, by decide⟩, ⟨⟨lw_gd 704 63 rfl rfl, hi_3, hc_3, hv_3, hp_13⟩, lw_gd 704 61 rfl rfl, lw_gd 704 62 rfl rfl, rfl, by decide⟩, ⟨⟨lw_gd 768 4 rfl rfl, hi_3, hc_3, hv_3, hp_6⟩, lw_gd 768 2 rfl rfl, lw_gd 768 3 rfl rfl, rfl, by decide⟩, ⟨⟨lw_gd 768 10 rfl rfl, hi_0, hc_0, hv_0, hp_6⟩, lw_gd 768 8 rfl rfl, lw_gd 768 9 rfl rfl, rfl, by decide⟩, ⟨⟨lw_gd 768 14 rfl rfl, hi_6, hc_6, hv_6, hp_18⟩, lw_gd 768 12 rfl rfl, lw_gd 768 13 rfl rfl, rfl, by decide⟩, ⟨⟨lw_gd 768 18 rfl rfl, hi_3, hc_3, hv_3, hp_11⟩, lw_gd 768 16 rfl rfl, lw_gd 768 17 rfl rfl, rfl, by decide⟩, ⟨⟨lw_gd 768 22 rfl rfl, hi_0, hc_0, hv_0, hp_4⟩, lw_gd 768 20 rfl rfl, lw_gd 768 21 rfl rfl, rfl, by decide⟩, ⟨⟨lw_gd 768 26 rfl rfl, hi_6, hc_6, hv_6, hp_23⟩, lw_gd 768 24 rfl rfl, lw_gd 768 25 rfl rfl, rfl, by decide⟩, ⟨⟨lw_gd 768 32 rfl rfl, hi_0, hc_0, hv_0, hp_25⟩, lw_gd 768 30 rfl rfl, lw_gd 768 31 rfl rfl, rfl, by decide⟩, ⟨⟨lw_gd 768 36 rfl rfl, hi_6, hc_6, hv_6, hp_26⟩, lw_gd 768 34 rfl rfl, lw_gd 768 35 rfl rfl, rfl, by decide⟩, ⟨⟨lw_gd 768 40 rfl rfl, hi_6, hc_6, hv_6, hp_27⟩, lw_gd 768 39 rfl rfl, lw_gd 0 22 rfl rfl, rfl, by decide⟩, ⟨⟨lw_gd 768 45 rfl rfl, hi_3, hc_3, hv_3, hp_10⟩, lw_gd 768 43 rfl rfl, lw_gd 768 44 rfl rfl, rfl, by decide⟩, ⟨⟨lw_gd 768 53 rfl rfl, hi_0, hc_0, hv_0, hp_20⟩, lw_gd 768 51 rfl rfl, lw_gd 768 52 rfl rfl, rfl, by decide⟩, ⟨⟨lw_gd 768 57 rfl rfl, hi_6, hc_6, hv_6, hp_28⟩, lw_gd 768 55 rfl rfl, lw_gd 768 56 rfl rfl, rfl, by decide⟩, ⟨⟨lw_gd 832 1 rfl rfl, hi_0, hc_0, hv_0, hp_29⟩, lw_gd 768 63 rfl rfl, lw_gd 832 0 rfl rfl, rfl, by decide⟩⟩
theorem hk_97 : pm_hk 0 m_97 := hg_6.1
theorem hk_98 : pm_hk 0 m_98 := hg_6.2.1
theorem hk_99 : pm_hk 0 m_99 := hg_6.2.2.1
theorem hk_100 : pm_hk 0 m_100 := hg_6.2.2.2.1
theorem hk_101 : pm_hk 0 m_101 := hg_6.2.2.2.2.1
theorem hk_102 : pm_hk 0 m_102 := hg_6.2.2.2.2.2.1
theorem hk_103 : pm_hk 0 m_103 := hg_6.2.2.2.2.2.2.1
theorem hk_104 : pm_hk 0 m_104 := hg_6.2.2.2.2.2.2.2.1
theorem hk_105 : pm_hk 0 m_105 := hg_6.2.2.2.2.2.2.2.2.1
theorem hk_106 : pm_hk 0 m_106 := hg_6.2.2.2.2.2.2.2.2.2.1
theorem hk_107 : pm_hk 0 m_107 := hg_6.2.2.2.2.2.2.2.2.2.2.1
theorem hk_108 : pm_hk 0 m_108 := hg_6.2.2.2.2.2.2.2.2.2.2.2.1
theorem hk_109 : pm_hk 0 m_109 := hg_6.2.2.2.2.2.2.2.2.2.2.2.2.1
theorem hk_110 : pm_hk 0 m_110 := hg_6.2.2.2.2.2.2.2.2.2.2.2.2.2.1
theorem hk_111 : pm_hk 0 m_111 := hg_6.2.2.2.2.2.2.2.2.2.2.2.2.2.2.1
theorem hk_112 : pm_hk 0 m_112 := hg_6.2.2.2.2.2.2.2.2.2.2.2.2.2.2.2
set_option maxRecDepth 100000 in
theorem hg_7 : pm_hk 0 m_113 ∧ pm_hk 2 m_114 ∧ pm_hk 0 m_115 ∧ pm_hk 0 m_116 ∧ pm_hk 2 m_117 ∧ pm_hk 0 m_118 ∧ pm_hk 0 m_119 ∧ pm_hk 0 m_120 ∧ pm_hk 0 m_121 ∧ pm_hk 0 m_122 ∧ pm_hk 0 m_123 ∧ pm_hk 0 m_124 ∧ pm_hk 0 m_125 ∧ pm_hk 0 m_126 ∧ pm_hk 2 m_127 ∧ pm_hk 0 m_128 := ⟨⟨⟨lw_gd 832 6 rfl rfl, hi_6, hc_6, hv_6, hp_30⟩, lw_gd 832 4 rfl rfl, lw_gd 832 5 rfl rfl, rfl, by decide⟩, ⟨⟨lw_gd 832 9 rfl rfl, hi_6, hc_6, hv_6, hp_30⟩, lw_gd 832 8 rfl rfl⟩, ⟨⟨lw_gd 832 13 rfl rfl, hi_6, hc_6, hv_6, hp_19⟩, lw_gd 832 12 rfl rfl, lw_gd 0 23 rfl rfl, rfl, by decide⟩, ⟨⟨lw_gd 832 18 rfl rfl, hi_3, hc_3, hv_3, hp_22⟩, lw_gd 832 16 rfl rfl, lw_gd 832 17 rfl rfl, rfl, by decide⟩, ⟨⟨lw_gd 832 22 rfl rfl, hi_0, hc_0, hv_0, hp_31⟩, lw_gd 832 21 rfl rfl⟩, ⟨⟨lw_gd 832 26 rfl rfl, hi_0, hc_0, hv_0, hp_10⟩, lw_gd 832 24 rfl rfl, lw_gd 832 25 rfl rfl, rfl, by decide⟩, ⟨⟨lw_gd 832 30 rfl rfl, hi_0, hc_0, hv_0, hp_4⟩, lw_gd 832 28 rfl rfl, lw_gd 832 29 rfl rfl, rfl, by decide⟩, ⟨⟨lw_gd 832 34 rfl rfl, hi_0, hc_0, hv_0, hp_4⟩, lw_gd 832 32 rfl rfl, lw_gd 832 33 rfl rfl, rfl, by decide⟩, ⟨⟨lw_gd 832 38 rfl rfl, hi_6, hc_6, hv_6, hp_18⟩, lw_gd 832 36 rfl rfl, lw_gd 832 37 rfl rfl, rfl, by decide⟩, ⟨⟨lw_gd 832 42 rfl rfl, hi_6, hc_6, hv_6, hp_32⟩, lw_gd 832 41 rfl rfl, lw_gd 0 24 rfl rfl, rfl, by decide⟩, ⟨⟨lw_gd 832 46 rfl rfl, hi_5, hc_5, hv_5, hp_4⟩, lw_gd 832 44 rfl rfl, lw_gd 832 45 rfl rfl, rfl, by decide⟩, ⟨⟨lw_gd 832 51 rfl rfl, hi_6, hc_6, hv_6, hp_23⟩, lw_gd 832 49 rfl rfl, lw_gd 832 50 rfl rfl, rfl, by decide⟩, ⟨⟨lw_gd 832 56 rfl rfl, hi_0, hc_0, hv_0, hp_10⟩, lw_gd 832 54 rfl rfl, lw_gd 832 55 rfl rfl, rfl, by decide⟩, ⟨⟨lw_gd 832 60 rfl rfl, hi_6, hc_6, hv_6, hp_28⟩, lw_gd 832 58 rfl rfl, lw_gd 832 59 rfl rfl, rfl, by decide⟩, ⟨⟨lw_gd 896 0 rfl rfl, hi_9, hc_9, hv_9, hp_4⟩, lw_gd 832 63 rfl rfl⟩, ⟨⟨lw_gd 896 7 rfl rfl, hi_0, hc_0, hv_0, hp_4⟩, lw_gd 896 5 rfl rfl, lw_gd 896 6 rfl rfl, rfl, by decide⟩⟩
theorem hk_113 : pm_hk 0 m_113 := hg_7.1
theorem hk_114 : pm_hk 2 m_114 := hg_7.2.1
theorem hk_115 : pm_hk 0 m_115 := hg_7.2.2.1
theorem hk_116 : pm_hk 0 m_116 := hg_7.2.2.2.1
theorem hk_117 : pm_hk 2 m_117 := hg_7.2.2.2.2.1
theorem hk_118 : pm_hk 0 m_118 := hg_7.2.2.2.2.2.1
theorem hk_119 : pm_hk 0 m_119 := hg_7.2.2.2.2.2.2.1
theorem hk_120 : pm_hk 0 m_120 := hg_7.2.2.2.2.2.2.2.1
theorem hk_121 : pm_hk 0 m_121 := hg_7.2.2.2.2.2.2.2.2.1
theorem hk_122 : pm_hk 0 m_122 := hg_7.2.2.2.2.2.2.2.2.2.1
theorem hk_123 : pm_hk 0 m_123 := hg_7.2.2.2.2.2.2.2.2.2.2.1
theorem hk_124 : pm_hk 0 m_124 := hg_7.2.2.2.2.2.2.2.2.2.2.2.1
theorem hk_125 : pm_hk 0 m_125 := hg_7.2.2.2.2.2.2.2.2.2.2.2.2.1
theorem hk_126 : pm_hk 0 m_126 := hg_7.2.2.2.2.2.2.2.2.2.2.2.2.2.1
theorem hk_127 : pm_hk 2 m_127 := hg_7.2.2.2.2.2.2.2.2.2.2.2.2.2.2.1
theorem hk_128 : pm_hk 0 m_128 := hg_7.2.2.2.2.2.2.2.2.2.2.2.2.2.2.2
set_option maxRecDepth 100000 in
theorem hg_8 : pm_hk 0 m_129 ∧ pm_hk 0 m_130 ∧ pm_hk 2 m_131 ∧ pm_hk 2 m_132 ∧ pm_hk 0 m_133 ∧ pm_hk 0 m_134 ∧ pm_hk 0 m_135 ∧ pm_hk 0 m_136 ∧ pm_hk 0 m_137 ∧ pm_hk 0 m_138 ∧ pm_hk 0 m_139 ∧ pm_hk 0 m_140 ∧ pm_hk 0 m_141 ∧ pm_hk 0 m_142 ∧ pm_hk 0 m_143 ∧ pm_hk 0 m_144 := ⟨⟨⟨lw_gd 896 11 rfl rfl, hi_0, hc_0, hv_0, hp_4⟩, lw_gd 896 9 rfl rfl, lw_gd 896 10 rfl rfl, rfl, by decide⟩, ⟨⟨lw_gd 896 15 rfl rfl, hi_0, hc_0, hv_0, hp_20⟩, lw_gd 896 13 rfl rfl, lw_gd 896 14 rfl rfl, rfl, by decide⟩, ⟨⟨lw_gd 896 18 rfl rfl, hi_0, hc_0, hv_0, hp_5⟩, lw_gd 896 17 rfl rfl⟩, ⟨⟨lw_gd 896 21 rfl rfl, hi_0, hc_0, hv_0, hp_5⟩, lw_gd 896 20 rfl rfl⟩, ⟨⟨lw_gd 896 25 rfl rfl, hi_7, hc_7, hv_7, hp_7⟩, lw_gd 896 23 rfl rfl, lw_gd 896 24 rfl rfl, rfl, by decide⟩, ⟨⟨lw_gd 896 30 rfl rfl, hi_0, hc_0, hv_0, hp_20⟩, lw_gd 896 28 rfl rfl, lw_gd 896 29 rfl rfl, rfl, by decide⟩, ⟨⟨lw_gd 896 34 rfl rfl, hi_7, hc_7, hv_7, hp_4⟩, lw_gd 896 32 rfl rfl, lw_gd 896 33 rfl rfl, rfl, by decide⟩, ⟨⟨lw_gd 896 38 rfl rfl, hi_7, hc_7, hv_7, hp_13⟩, lw_gd 896 36 rfl rfl, lw_gd 896 37 rfl rfl, rfl, by decide⟩, ⟨⟨lw_gd 896 42 rfl rfl, hi_7, hc_7, hv_7, hp_7⟩, lw_gd 896 40 rfl rfl, lw_gd 896 41 rfl rfl, rfl, by decide⟩, ⟨⟨lw_gd 896 46 rfl rfl, hi_0, hc_0, hv_0, hp_25⟩, lw_gd 896 44 rfl rfl, lw_gd 896 45 rfl rfl, rfl, by decide⟩, ⟨⟨lw_gd 896 50 rfl rfl, hi_7, hc_7, hv_7, hp_4⟩, lw_gd 896 48 rfl rfl, lw_gd 896 49 rfl rfl, rfl, by decide⟩, ⟨⟨lw_gd 896 54 rfl rfl, hi_7, hc_7, hv_7, hp_4⟩, lw_gd 896 52 rfl rfl, lw_gd 896 53 rfl rfl, rfl, by decide⟩, ⟨⟨lw_gd 896 59 rfl rfl, hi_0, hc_0, hv_0, hp_33⟩, lw_gd 896 58 rfl rfl, lw_gd 0 25 rfl rfl, rfl, by decide⟩, ⟨⟨lw_gd 896 63 rfl rfl, hi_0, hc_0, hv_0, hp_6⟩, lw_gd 896 61 rfl rfl, lw_gd 896 62 rfl rfl, rfl, by decide⟩, ⟨⟨lw_gd 960 3 rfl rfl, hi_0, hc_0, hv_0, hp_4⟩, lw_gd 960 1 rfl rfl, lw_gd 960 2 rfl rfl, rfl, by decide⟩, ⟨⟨lw_gd 960 10 rfl rfl, hi_3, hc_3, hv_3, hp_6⟩, lw_gd 960 8 rfl rfl, lw_gd 960 9 rfl rfl, rfl, by decide⟩⟩
theorem hk_129 : pm_hk 0 m_129 := hg_8.1
theorem hk_130 : pm_hk 0 m_130 := hg_8.2.1
theorem hk_131 : pm_hk 2 m_131 := hg_8.2.2.1
theorem hk_132 : pm_hk 2 m_132 := hg_8.2.2.2.1
theorem hk_133 : pm_hk 0 m_133 := hg_8.2.2.2.2.1
theorem hk_134 : pm_hk 0 m_134 := hg_8.2.2.2.2.2.1
theorem hk_135 : pm_hk 0 m_135 := hg_8.2.2.2.2.2.2.1
theorem hk_136 : pm_hk 0 m_136 := hg_8.2.2.2.2.2.2.2.1
theorem hk_137 : pm_hk 0 m_137 := hg_8.2.2.2.2.2.2.2.2.1
theorem hk_138 : pm_hk 0 m_138 := hg_8.2.2.2.2.2.2.2.2.2.1
theorem hk_139 : pm_hk 0 m_139 := hg_8.2.2.2.2.2.2.2.2.2.2.1
theorem hk_140 : pm_hk 0 m_140 := hg_8.2.2.2.2.2.2.2.2.2.2.2.1
theorem hk_141 : pm_hk 0 m_141 := hg_8.2.2.2.2.2.2.2.2.2.2.2.2.1
theorem hk_142 : pm_hk 0 m_142 := hg_8.2.2.2.2.2.2.2.2.2.2.2.2.2.1
theorem hk_143 : pm_hk 0 m_143 := hg_8.2.2.2.2.2.2.2.2.2.2.2.2.2.2.1
theorem hk_144 : pm_hk 0 m_144 := hg_8.2.2.2.2.2.2.2.2.2.2.2.2.2.2.2
set_option maxRecDepth 100000 in
theorem hg_9 : pm_hk 1 m_145 ∧ pm_hk 0 m_146 ∧ pm_hk 0 m_147 ∧ pm_hk 0 m_148 ∧ pm_hk 2 m_149 ∧ pm_hk 0 m_150 ∧ pm_hk 0 m_151 ∧ pm_hk 0 m_152 ∧ pm_hk 0 m_153 ∧ pm_hk 0 m_154 ∧ pm_hk 0 m_155 ∧ pm_hk 0 m_156 ∧ pm_hk 0 m_157 ∧ pm_hk 0 m_158 ∧ pm_hk 0 m_159 ∧ pm_hk 0 m_160 := ⟨⟨⟨lw_gd 960 15 rfl rfl, hi_10, hc_10, hv_10, hp_0⟩, lw_gd 960 14 rfl rfl, rfl, rfl⟩, ⟨⟨lw_gd 960 20 rfl rfl, hi_10, hc_10, hv_10, hp_0⟩, lw_gd 960 19 rfl rfl, lw_gd 0 26 rfl rfl, rfl, by decide⟩, ⟨⟨lw_gd 960 24 rfl rfl, hi_10, hc_10, hv_10, hp_0⟩, lw_gd 960 23 rfl rfl, lw_gd 0 27 rfl rfl, rfl, by decide⟩, ⟨⟨lw_gd 1088 7 rfl rfl, hi_10, hc_10, hv_10, hp_4⟩, lw_gd 1088 5 rfl rfl, lw_gd 1088 6 rfl rfl, rfl, by decide⟩, ⟨⟨lw_gd 1088 11 rfl rfl, hi_10, hc_10, hv_10, hp_34⟩, lw_gd 1088 10 rfl rfl⟩, ⟨⟨lw_gd 1088 15 rfl rfl, hi_10, hc_10, hv_10, hp_4⟩, lw_gd 1088 13 rfl rfl, lw_gd 1088 14 rfl rfl, rfl, by decide⟩, ⟨⟨lw_gd 1088 19 rfl rfl, hi_10, hc_10, hv_10, hp_6⟩, lw_gd 1088 17 rfl rfl, lw_gd 1088 18 rfl rfl, rfl, by decide⟩, ⟨⟨lw_gd 1088 23 rfl rfl, hi_10, hc_10, hv_10, hp_0⟩, lw_gd 1088 22 rfl rfl, lw_gd 0 28 rfl rfl, rfl, by decide⟩, ⟨⟨lw_gd 1088 27 rfl rfl, hi_10, hc_10, hv_10, hp_4⟩, lw_gd 1088 26 rfl rfl, lw_gd 0 29 rfl rfl, rfl, by decide⟩, ⟨⟨lw_gd 1088 35 rfl rfl, hi_10, hc_10, hv_10, hp_35⟩, lw_gd 1088 34 rfl rfl, lw_gd 0 30 rfl rfl, rfl, by decide⟩, ⟨⟨lw_gd 1088 39 rfl rfl, hi_10, hc_10, hv_10, hp_0⟩, lw_gd 1088 38 rfl rfl, lw_gd 0 31 rfl rfl, rfl, by decide⟩, ⟨⟨lw_gd 1088 43 rfl rfl, hi_10, hc_10, hv_10, hp_6⟩, lw_gd 1088 42 rfl rfl, lw_gd 0 32 rfl rfl, rfl, by decide⟩, ⟨⟨lw_gd 1088 47 rfl rfl, hi_10, hc_10, hv_10, hp_36⟩, lw_gd 1088 46 rfl rfl, lw_gd 0 33 rfl rfl, rfl, by decide⟩, ⟨⟨lw_gd 1088 51 rfl rfl, hi_10, hc_10, hv_10, hp_36⟩, lw_gd 1088 50 rfl rfl, lw_gd 0 34 rfl rfl, rfl, by decide⟩, ⟨⟨lw_gd 1088 55 rfl rfl, hi_10, hc_10, hv_10, hp_11⟩, lw_gd 1088 54 rfl rfl, lw_gd 0 35 rfl rfl, rfl, by decide⟩, ⟨⟨lw_gd 1088 59 rfl rfl, hi_10, hc_10, hv_10, hp_10⟩, lw_gd 1088 58 rfl rfl, lw_gd 0 36 rfl rfl, rfl, by decide⟩⟩
theorem hk_145 : pm_hk 1 m_145 := hg_9.1
theorem hk_146 : pm_hk 0 m_146 := hg_9.2.1
theorem hk_147 : pm_hk 0 m_147 := hg_9.2.2.1
theorem hk_148 : pm_hk 0 m_148 := hg_9.2.2.2.1
theorem hk_149 : pm_hk 2 m_149 := hg_9.2.2.2.2.1
theorem hk_150 : pm_hk 0 m_150 := hg_9.2.2.2.2.2.1
theorem hk_151 : pm_hk 0 m_151 := hg_9.2.2.2.2.2.2.1
theorem hk_152 : pm_hk 0 m_152 := hg_9.2.2.2.2.2.2.2.1
theorem hk_153 : pm_hk 0 m_153 := hg_9.2.2.2.2.2.2.2.2.1
theorem hk_154 : pm_hk 0 m_154 := hg_9.2.2.2.2.2.2.2.2.2.1
theorem hk_155 : pm_hk 0 m_155 := hg_9.2.2.2.2.2.2.2.2.2.2.1
theorem hk_156 : pm_hk 0 m_156 := hg_9.2.2.2.2.2.2.2.2.2.2.2.1
theorem hk_157 : pm_hk 0 m_157 := hg_9.2.2.2.2.2.2.2.2.2.2.2.2.1
theorem hk_158 : pm_hk 0 m_158 := hg_9.2.2.2.2.2.2.2.2.2.2.2.2.2.1
theorem hk_159 : pm_hk 0 m_159 := hg_9.2.2.2.2.2.2.2.2.2.2.2.2.2.2.1
theorem hk_160 : pm_hk 0 m_160 := hg_9.2.2.2.2.2.2.2.2.2.2.2.2.2.2.2
set_option maxRecDepth 100000 in
theorem hg_10 : pm_hk 0 m_161 ∧ pm_hk 0 m_162 ∧ pm_hk 0 m_163 ∧ pm_hk 2 m_164 ∧ pm_hk 0 m_165 ∧ pm_hk 0 m_166 ∧ pm_hk 0 m_167 ∧ pm_hk 0 m_168 ∧ pm_hk 0 m_169 ∧ pm_hk 0 m_170 ∧ pm_hk 0 m_171 ∧ pm_hk 0 m_172 ∧ pm_hk 0 m_173 ∧ pm_hk 0 m_174 ∧ pm_hk 0 m_175 ∧ pm_hk 0 m_176 := ⟨⟨⟨lw_gd 1088 63 rfl rfl, hi_10, hc_10, hv_10, hp_10⟩, lw_gd 1088 62 rfl rfl, lw_gd 0 37 rfl rfl, rfl, by decide⟩, ⟨⟨lw_gd 1152 3 rfl rfl, hi_10, hc_10, hv_10, hp_6⟩, lw_gd 1152 2 rfl rfl, lw_gd 0 38 rfl rfl, rfl, by decide⟩, ⟨⟨lw_gd 1152 7 rfl rfl, hi_10, hc_10, hv_10, hp_0⟩, lw_gd 1152 6 rfl rfl, lw_gd 0 39 rfl rfl, rfl, by decide⟩, ⟨⟨lw_gd 1152 10 rfl rfl, hi_10, hc_10, hv_10, hp_37⟩, lw_gd 1152 9 rfl rfl⟩, ⟨⟨lw_gd 1152 14 rfl rfl, hi_10, hc_10, hv_10, hp_11⟩, lw_gd 1152 13 rfl rfl, lw_gd 0 40 rfl rfl, rfl, by decide⟩, ⟨⟨lw_gd 1152 18 rfl rfl, hi_10, hc_10, hv_10, hp_6⟩, lw_gd 1152 16 rfl rfl, lw_gd 1152 17 rfl rfl, rfl, by decide⟩, ⟨⟨lw_gd 1152 22 rfl rfl, hi_10, hc_10, hv_10, hp_4⟩, lw_gd 1152 20 rfl rfl, lw_gd 1152 21 rfl rfl, rfl, by decide⟩, ⟨⟨lw_gd 1152 27 rfl rfl, hi_10, hc_10, hv_10, hp_10⟩, lw_gd 1152 25 rfl rfl, lw_gd 1152 26 rfl rfl, rfl, by decide⟩, ⟨⟨lw_gd 1152 31 rfl rfl, hi_10, hc_10, hv_10, hp_5⟩, lw_gd 1152 30 rfl rfl, lw_gd 0 41 rfl rfl, rfl, by decide⟩, ⟨⟨lw_gd 1152 36 rfl rfl, hi_10, hc_10, hv_10, hp_4⟩, lw_gd 1152 34 rfl rfl, lw_gd 1152 35 rfl rfl, rfl, by decide⟩, ⟨⟨lw_gd 1152 40 rfl rfl, hi_10, hc_10, hv_10, hp_5⟩, lw_gd 1152 39 rfl rfl, lw_gd 0 42 rfl rfl, rfl, by decide⟩, ⟨⟨lw_gd 1152 44 rfl rfl, hi_10, hc_10, hv_10, hp_0⟩, lw_gd 1152 43 rfl rfl, lw_gd 0 43 rfl rfl, rfl, by decide⟩, ⟨⟨lw_gd 1152 48 rfl rfl, hi_10, hc_10, hv_10, hp_4⟩, lw_gd 1152 47 rfl rfl, lw_gd 0 44 rfl rfl, rfl, by decide⟩, ⟨⟨lw_gd 1152 52 rfl rfl, hi_10, hc_10, hv_10, hp_10⟩, lw_gd 1152 50 rfl rfl, lw_gd 1152 51 rfl rfl, rfl, by decide⟩, ⟨⟨lw_gd 1152 56 rfl rfl, hi_10, hc_10, hv_10, hp_10⟩, lw_gd 1152 55 rfl rfl, lw_gd 0 45 rfl rfl, rfl, by decide⟩, ⟨⟨lw_gd 1152 60 rfl rfl, hi_10, hc_10, hv_10, hp_10⟩, lw_gd 1152 58 rfl rfl, lw_gd 1152 59 rfl rfl, rfl, by decide⟩⟩
theorem hk_161 : pm_hk 0 m_161 := hg_10.1
theorem hk_162 : pm_hk 0 m_162 := hg_10.2.1
theorem hk_163 : pm_hk 0 m_163 := hg_10.2.2.1
theorem hk_164 : pm_hk 2 m_164 := hg_10.2.2.2.1
theorem hk_165 : pm_hk 0 m_165 := hg_10.2.2.2.2.1
theorem hk_166 : pm_hk 0 m_166 := hg_10.2.2.2.2.2.1
theorem hk_167 : pm_hk 0 m_167 := hg_10.2.2.2.2.2.2.1
theorem hk_168 : pm_hk 0 m_168 := hg_10.2.2.2.2.2.2.2.1
theorem hk_169 : pm_hk 0 m_169 := hg_10.2.2.2.2.2.2.2.2.1
theorem hk_170 : pm_hk 0 m_170 := hg_10.2.2.2.2.2.2.2.2.2.1
theorem hk_171 : pm_hk 0 m_171 := hg_10.2.2.2.2.2.2.2.2.2.2.1
theorem hk_172 : pm_hk 0 m_172 := hg_10.2.2.2.2.2.2.2.2.2.2.2.1
theorem hk_173 : pm_hk 0 m_173 := hg_10.2.2.2.2.2.2.2.2.2.2.2.2.1
theorem hk_174 : pm_hk 0 m_174 := hg_10.2.2.2.2.2.2.2.2.2.2.2.2.2.1
theorem hk_175 : pm_hk 0 m_175 := hg_10.2.2.2.2.2.2.2.2.2.2.2.2.2.2.1
theorem hk_176 : pm_hk 0 m_176 := hg_10.2.2.2.2.2.2.2.2.2.2.2.2.2.2.2
set_option maxRecDepth 100000 in
theorem hg_11 : pm_hk 0 m_177 ∧ pm_hk 0 m_178 ∧ pm_hk 0 m_179 ∧ pm_hk 0 m_180 ∧ pm_hk 0 m_181 ∧ pm_hk 0 m_182 ∧ pm_hk 0 m_183 ∧ pm_hk 0 m_184 ∧ pm_hk 0 m_185 ∧ pm_hk 2 m_186 ∧ pm_hk 2 m_187 ∧ pm_hk 0 m_188 ∧ pm_hk 0 m_189 ∧ pm_hk 0 m_190 ∧ pm_hk 0 m_191 ∧ pm_hk 0 m_192 := ⟨⟨⟨lw_gd 1216 0 rfl rfl, hi_10, hc_10, hv_10, hp_5⟩, lw_gd 1152 63 rfl rfl, lw_gd 0 46 rfl rfl, rfl, by decide⟩, ⟨⟨lw_gd 1216 4 rfl rfl, hi_10, hc_10, hv_10, hp_16⟩, lw_gd 1216 2 rfl rfl, lw_gd 1216 3 rfl rfl, rfl, by decide⟩, ⟨⟨lw_gd 1216 8 rfl rfl, hi_10, hc_10, hv_10, hp_10⟩, lw_gd 1216 6 rfl rfl, lw_gd 1216 7 rfl rfl, rfl, by decide⟩, ⟨⟨lw_gd 1216 12 rfl rfl, hi_10, hc_10, hv_10, hp_16⟩, lw_gd 1216 10 rfl rfl, lw_gd 1216 11 rfl rfl, rfl, by decide⟩, ⟨⟨lw_gd 1216 16 rfl rfl, hi_10, hc_10, hv_10, hp_10⟩, lw_gd 1216 14 rfl rfl, lw_gd 1216 15 rfl rfl, rfl, by decide⟩, ⟨⟨lw_gd 1216 21 rfl rfl, hi_10, hc_10, hv_10, hp_4⟩, lw_gd 1216 19 rfl rfl, lw_gd 1216 20 rfl rfl, rfl, by decide⟩, ⟨⟨lw_gd 1216 25 rfl rfl, hi_10, hc_10, hv_10, hp_10⟩, lw_gd 1216 23 rfl rfl, lw_gd 1216 24 rfl rfl, rfl, by decide⟩, ⟨⟨lw_gd 1216 29 rfl rfl, hi_10, hc_10, hv_10, hp_16⟩, lw_gd 1216 28 rfl rfl, lw_gd 0 47 rfl rfl, rfl, by decide⟩, ⟨⟨lw_gd 1216 33 rfl rfl, hi_10, hc_10, hv_10, hp_10⟩, lw_gd 1216 32 rfl rfl, lw_gd 0 48 rfl rfl, rfl, by decide⟩, ⟨⟨lw_gd 1216 36 rfl rfl, hi_10, hc_10, hv_10, hp_4⟩, lw_gd 1216 35 rfl rfl⟩, ⟨⟨lw_gd 1216 39 rfl rfl, hi_10, hc_10, hv_10, hp_4⟩, lw_gd 1216 38 rfl rfl⟩, ⟨⟨lw_gd 1216 43 rfl rfl, hi_10, hc_10, hv_10, hp_4⟩, lw_gd 1216 41 rfl rfl, lw_gd 1216 42 rfl rfl, rfl, by decide⟩, ⟨⟨lw_gd 1216 47 rfl rfl, hi_10, hc_10, hv_10, hp_4⟩, lw_gd 1216 46 rfl rfl, lw_gd 0 49 rfl rfl, rfl, by decide⟩, ⟨⟨lw_gd 1216 51 rfl rfl, hi_10, hc_10, hv_10, hp_6⟩, lw_gd 1216 49 rfl rfl, lw_gd 1216 50 rfl rfl, rfl, by decide⟩, ⟨⟨lw_gd 1216 55 rfl rfl, hi_10, hc_10, hv_10, hp_13⟩, lw_gd 1216 54 rfl rfl, lw_gd 0 50 rfl rfl, rfl, by decide⟩, ⟨⟨lw_gd 1216 59 rfl rfl, hi_10, hc_10, hv_10, hp_10⟩, lw_gd 1216 58 rfl rfl, lw_gd 0 51 rfl rfl, rfl, by decide⟩⟩
theorem hk_177 : pm_hk 0 m_177 := hg_11.1
theorem hk_178 : pm_hk 0 m_178 := hg_11.2.1
theorem hk_179 : pm_hk 0 m_179 := hg_11.2.2.1
theorem hk_180 : pm_hk 0 m_180 := hg_11.2.2.2.1
theorem hk_181 : pm_hk 0 m_181 := hg_11.2.2.2.2.1
theorem hk_182 : pm_hk 0 m_182 := hg_11.2.2.2.2.2.1
theorem hk_183 : pm_hk 0 m_183 := hg_11.2.2.2.2.2.2.1
theorem hk_184 : pm_hk 0 m_184 := hg_11.2.2.2.2.2.2.2.1
theorem hk_185 : pm_hk 0 m_185 := hg_11.2.2.2.2.2.2.2.2.1
theorem hk_186 : pm_hk 2 m_186 := hg_11.2.2.2.2.2.2.2.2.2.1
theorem hk_187 : pm_hk 2 m_187 := hg_11.2.2.2.2.2.2.2.2.2.2.1
theorem hk_188 : pm_hk 0 m_188 := hg_11.2.2.2.2.2.2.2.2.2.2.2.1
theorem hk_189 : pm_hk 0 m_189 := hg_11.2.2.2.2.2.2.2.2.2.2.2.2.1
theorem hk_190 : pm_hk 0 m_190 := hg_11.2.2.2.2.2.2.2.2.2.2.2.2.2.1
theorem hk_191 : pm_hk 0 m_191 := hg_11.2.2.2.2.2.2.2.2.2.2.2.2.2.2.1
theorem hk_192 : pm_hk 0 m_192 := hg_11.2.2.2.2.2.2.2.2.2.2.2.2.2.2.2
set_option maxRecDepth 100000 in
theorem hg_12 : pm_hk 0 m_193 ∧ pm_hk 2 m_194 ∧ pm_hk 0 m_195 ∧ pm_hk 0 m_196 ∧ pm_hk 0 m_197 ∧ pm_hk 0 m_198 ∧ pm_hk 0 m_199 ∧ pm_hk 0 m_200 ∧ pm_hk 0 m_201 ∧ pm_hk 2 m_202 ∧ pm_hk 0 m_203 ∧ pm_hk 0 m_204 ∧ pm_hk 0 m_205 ∧ pm_hk 0 m_206 ∧ pm_hk 0 m_207 ∧ pm_hk 0 m_208 := ⟨⟨⟨lw_gd 1216 63 rfl rfl, hi_10, hc_10, hv_10, hp_5⟩, lw_gd 1216 62 rfl rfl, lw_gd 0 52 rfl rfl, rfl, by decide⟩, ⟨⟨lw_gd 1280 2 rfl rfl, hi_10, hc_10, hv_10, hp_4⟩, lw_gd 1280 1 rfl rfl⟩, ⟨⟨lw_gd 1280 6 rfl rfl, hi_10, hc_10, hv_10, hp_6⟩, lw_gd 1280 4 rfl rfl, lw_gd 1280 5 rfl rfl, rfl, by decide⟩, ⟨⟨lw_gd 1280 10 rfl rfl, hi_10, hc_10, hv_10, hp_4⟩, lw_gd 1280 8 rfl rfl, lw_gd 1280 9 rfl rfl, rfl, by decide⟩, ⟨⟨lw_gd 1280 15 rfl rfl, hi_10, hc_10, hv_10, hp_6⟩, lw_gd 1280 14 rfl rfl, lw_gd 0 53 rfl rfl, rfl, by decide⟩, ⟨⟨lw_gd 1280 19 rfl rfl, hi_10, hc_10, hv_10, hp_20⟩, lw_gd 1280 17 rfl rfl, lw_gd 1280 18 rfl rfl, rfl, by decide⟩, ⟨⟨lw_gd 1280 23 rfl rfl, hi_10, hc_10, hv_10, hp_6⟩, lw_gd 1280 21 rfl rfl, lw_gd 1280 22 rfl rfl, rfl, by decide⟩, ⟨⟨lw_gd 1280 27 rfl rfl, hi_10, hc_10, hv_10, hp_4⟩, lw_gd 1280 25 rfl rfl, lw_gd 1280 26 rfl rfl, rfl, by decide⟩, ⟨⟨lw_gd 1280 31 rfl rfl, hi_10, hc_10, hv_10, hp_10⟩, lw_gd 1280 29 rfl rfl, lw_gd 1280 30 rfl rfl, rfl, by decide⟩, ⟨⟨lw_gd 1280 36 rfl rfl, hi_10, hc_10, hv_10, hp_4⟩, lw_gd 1280 35 rfl rfl⟩, ⟨⟨lw_gd 1280 40 rfl rfl, hi_10, hc_10, hv_10, hp_10⟩, lw_gd 1280 39 rfl rfl, lw_gd 0 54 rfl rfl, rfl, by decide⟩, ⟨⟨lw_gd 1280 44 rfl rfl, hi_10, hc_10, hv_10, hp_5⟩, lw_gd 1280 43 rfl rfl, lw_gd 0 55 rfl rfl, rfl, by decide⟩, ⟨⟨lw_gd 1280 48 rfl rfl, hi_10, hc_10, hv_10, hp_6⟩, lw_gd 1280 47 rfl rfl, lw_gd 0 56 rfl rfl, rfl, by decide⟩, ⟨⟨lw_gd 1280 52 rfl rfl, hi_10, hc_10, hv_10, hp_6⟩, lw_gd 1280 50 rfl rfl, lw_gd 1280 51 rfl rfl, rfl, by decide⟩, ⟨⟨lw_gd 1280 56 rfl rfl, hi_10, hc_10, hv_10, hp_4⟩, lw_gd 1280 54 rfl rfl, lw_gd 1280 55 rfl rfl, rfl, by decide⟩, ⟨⟨lw_gd 1280 60 rfl rfl, hi_10, hc_10, hv_10, hp_25⟩, lw_gd 1280 58 rfl rfl, lw_gd 1280 59 rfl rfl, rfl, by decide⟩⟩
theorem hk_193 : pm_hk 0 m_193 := hg_12.1
theorem hk_194 : pm_hk 2 m_194 := hg_12.2.1
theorem hk_195 : pm_hk 0 m_195 := hg_12.2.2.1
theorem hk_196 : pm_hk 0 m_196 := hg_12.2.2.2.1
theorem hk_197 : pm_hk 0 m_197 := hg_12.2.2.2.2.1
theorem hk_198 : pm_hk 0 m_198 := hg_12.2.2.2.2.2.1
theorem hk_199 : pm_hk 0 m_199 := hg_12.2.2.2.2.2.2.1
theorem hk_200 : pm_hk 0 m_200 := hg_12.2.2.2.2.2.2.2.1
theorem hk_201 : pm_hk 0 m_201 := hg_12.2.2.2.2.2.2.2.2.1
theorem hk_202 : pm_hk 2 m_202 := hg_12.2.2.2.2.2.2.2.2.2.1
theorem hk_203 : pm_hk 0 m_203 := hg_12.2.2.2.2.2.2.2.2.2.2.1
theorem hk_204 : pm_hk 0 m_204 := hg_12.2.2.2.2.2.2.2.2.2.2.2.1
theorem hk_205 : pm_hk 0 m_205 := hg_12.2.2.2.2.2.2.2.2.2.2.2.2.1
theorem hk_206 : pm_hk 0 m_206 := hg_12.2.2.2.2.2.2.2.2.2.2.2.2.2.1
theorem hk_207 : pm_hk 0 m_207 := hg_12.2.2.2.2.2.2.2.2.2.2.2.2.2.2.1
theorem hk_208 : pm_hk 0 m_208 := hg_12.2.2.2.2.2.2.2.2.2.2.2.2.2.2.2
set_option maxRecDepth 100000 in
theorem hg_13 : pm_hk 0 m_209 ∧ pm_hk 0 m_210 ∧ pm_hk 2 m_211 ∧ pm_hk 0 m_212 ∧ pm_hk 0 m_213 ∧ pm_hk 0 m_214 ∧ pm_hk 0 m_215 ∧ pm_hk 0 m_216 ∧ pm_hk 0 m_217 ∧ pm_hk 0 m_218 ∧ pm_hk 0 m_219 ∧ pm_hk 2 m_220 ∧ pm_hk 0 m_221 ∧ pm_hk 0 m_222 ∧ pm_hk 0 m_223 ∧ pm_hk 0 m_224 := ⟨⟨⟨lw_gd 1344 2 rfl rfl, hi_10, hc_10, hv_10, hp_20⟩, lw_gd 1344 0 rfl rfl, lw_gd 1344 1 rfl rfl, rfl, by decide⟩, ⟨⟨lw_gd 1344 6 rfl rfl, hi_10, hc_10, hv_10, hp_29⟩, lw_gd 1344 4 rfl rfl, lw_gd 1344 5 rfl rfl, rfl, by decide⟩, ⟨⟨lw_gd 1344 10 rfl rfl, hi_10, hc_10, hv_10, hp_31⟩, lw_gd 1344 9 rfl rfl⟩, ⟨⟨lw_gd 1344 14 rfl rfl, hi_10, hc_10, hv_10, hp_10⟩, lw_gd 1344 12 rfl rfl, lw_gd 1344 13 rfl rfl, rfl, by decide⟩, ⟨⟨lw_gd 1344 18 rfl rfl, hi_10, hc_10, hv_10, hp_4⟩, lw_gd 1344 16 rfl rfl, lw_gd 1344 17 rfl rfl, rfl, by decide⟩, ⟨⟨lw_gd 1344 22 rfl rfl, hi_10, hc_10, hv_10, hp_4⟩, lw_gd 1344 20 rfl rfl, lw_gd 1344 21 rfl rfl, rfl, by decide⟩, ⟨⟨lw_gd 1344 26 rfl rfl, hi_10, hc_10, hv_10, hp_10⟩, lw_gd 1344 24 rfl rfl, lw_gd 1344 25 rfl rfl, rfl, by decide⟩, ⟨⟨lw_gd 1344 31 rfl rfl, hi_10, hc_10, hv_10, hp_4⟩, lw_gd 1344 29 rfl rfl, lw_gd 1344 30 rfl rfl, rfl, by decide⟩, ⟨⟨lw_gd 1344 35 rfl rfl, hi_10, hc_10, hv_10, hp_7⟩, lw_gd 1344 34 rfl rfl, lw_gd 0 57 rfl rfl, rfl, by decide⟩, ⟨⟨lw_gd 1344 39 rfl rfl, hi_10, hc_10, hv_10, hp_4⟩, lw_gd 1344 37 rfl rfl, lw_gd 1344 38 rfl rfl, rfl, by decide⟩, ⟨⟨lw_gd 1344 43 rfl rfl, hi_10, hc_10, hv_10, hp_20⟩, lw_gd 1344 41 rfl rfl, lw_gd 1344 42 rfl rfl, rfl, by decide⟩, ⟨⟨lw_gd 1344 46 rfl rfl, hi_10, hc_10, hv_10, hp_15⟩, lw_gd 1344 45 rfl rfl⟩, ⟨⟨lw_gd 1344 51 rfl rfl, hi_10, hc_10, hv_10, hp_20⟩, lw_gd 1344 49 rfl rfl, lw_gd 1344 50 rfl rfl, rfl, by decide⟩, ⟨⟨lw_gd 1344 55 rfl rfl, hi_10, hc_10, hv_10, hp_25⟩, lw_gd 1344 53 rfl rfl, lw_gd 1344 54 rfl rfl, rfl, by decide⟩, ⟨⟨lw_gd 1344 61 rfl rfl, hi_10, hc_10, hv_10, hp_6⟩, lw_gd 1344 59 rfl rfl, lw_gd 1344 60 rfl rfl, rfl, by decide⟩, ⟨⟨lw_gd 1408 1 rfl rfl, hi_10, hc_10, hv_10, hp_4⟩, lw_gd 1344 63 rfl rfl, lw_gd 1408 0 rfl rfl, rfl, by decide⟩⟩
theorem hk_209 : pm_hk 0 m_209 := hg_13.1
theorem hk_210 : pm_hk 0 m_210 := hg_13.2.1
theorem hk_211 : pm_hk 2 m_211 := hg_13.2.2.1
theorem hk_212 : pm_hk 0 m_212 := hg_13.2.2.2.1
theorem hk_213 : pm_hk 0 m_213 := hg_13.2.2.2.2.1
theorem hk_214 : pm_hk 0 m_214 := hg_13.2.2.2.2.2.1
theorem hk_215 : pm_hk 0 m_215 := hg_13.2.2.2.2.2.2.1
theorem hk_216 : pm_hk 0 m_216 := hg_13.2.2.2.2.2.2.2.1
theorem hk_217 : pm_hk 0 m_217 := hg_13.2.2.2.2.2.2.2.2.1
theorem hk_218 : pm_hk 0 m_218 := hg_13.2.2.2.2.2.2.2.2.2.1
theorem hk_219 : pm_hk 0 m_219 := hg_13.2.2.2.2.2.2.2.2.2.2.1
theorem hk_220 : pm_hk 2 m_220 := hg_13.2.2.2.2.2.2.2.2.2.2.2.1
theorem hk_221 : pm_hk 0 m_221 := hg_13.2.2.2.2.2.2.2.2.2.2.2.2.1
theorem hk_222 : pm_hk 0 m_222 := hg_13.2.2.2.2.2.2.2.2.2.2.2.2.2.1
theorem hk_223 : pm_hk 0 m_223 := hg_13.2.2.2.2.2.2.2.2.2.2.2.2.2.2.1
theorem hk_224 : pm_hk 0 m_224 := hg_13.2.2.2.2.2.2.2.2.2.2.2.2.2.2.2
end
section
/-! THE METHODS: what their instructions link (printed by wip/gen/gen10.py). -/
def okF (q : Nat × Nat × Nat × Nat) : Prop := q.2.2.1 < 8 ∧ q.2.2.2 < kM q.2.2.1 ∧ Cond.fieldLink (kN q.1) q.2.1 (kN q.2.2.1) (kT q.2.2.1 q.2.2.2).2.1 (kT q.2.2.1 q.2.2.2).2.2.1 ∈ lw_gt
set_option maxRecDepth 100000 in
theorem lfg_0 : okF (2, 9, 2, 0) ∧ okF (2, 15, 2, 1) ∧ okF (6, 63, 2, 1) ∧ okF (3, 66, 2, 1) ∧ okF (3, 53, 2, 2) ∧ okF (2, 25, 2, 2) ∧ okF (3, 73, 2, 3) ∧ okF (2, 22, 2, 3) ∧ okF (2, 35, 2, 4) ∧ okF (3, 117, 2, 4) ∧ okF (2, 19, 2, 5) ∧ okF (4, 36, 4, 0) ∧ okF (6, 89, 4, 0) ∧ okF (5, 99, 4, 0) ∧ okF (3, 131, 4, 0) ∧ okF (4, 40, 4, 1) := ⟨⟨by decide, by decide, lw_gd 64 25 rfl rfl⟩, ⟨by decide, by decide, lw_gd 64 26 rfl rfl⟩, ⟨by decide, by decide, lw_gd 64 27 rfl rfl⟩, ⟨by decide, by decide, lw_gd 64 28 rfl rfl⟩, ⟨by decide, by decide, lw_gd 64 29 rfl rfl⟩, ⟨by decide, by decide, lw_gd 64 30 rfl rfl⟩, ⟨by decide, by decide, lw_gd 64 31 rfl rfl⟩, ⟨by decide, by decide, lw_gd 64 32 rfl rfl⟩, ⟨by decide, by decide, lw_gd 64 33 rfl rfl⟩, ⟨by decide, by decide, lw_gd 64 34 rfl rfl⟩, ⟨by decide, by decide, lw_gd 64 35 rfl rfl⟩, ⟨by decide, by decide, lw_gd 128 5 rfl rfl⟩, ⟨by decide, by decide, lw_gd 128 6 rfl rfl⟩, ⟨by decide, by decide, lw_gd 128 7 rfl rfl⟩, ⟨by decide, by decide, lw_gd 128 8 rfl rfl⟩, ⟨by decide, by decide, lw_gd 128 9 rfl rfl⟩⟩
theorem lf_15 : okF (2, 9, 2, 0) := lfg_0.1
theorem lf_16 : okF (2, 15, 2, 1) := lfg_0.2.1
theorem lf_79 : okF (6, 63, 2, 1) := lfg_0.2.2.1
theorem lf_30 : okF (3, 66, 2, 1) := lfg_0.2.2.2.1
theorem lf_29 : okF (3, 53, 2, 2) := lfg_0.2.2.2.2.1
theorem lf_19 : okF (2, 25, 2, 2) := lfg_0.2.2.2.2.2.1
theorem lf_31 : okF (3, 73, 2, 3) := lfg_0.2.2.2.2.2.2.1
theorem lf_18 : okF (2, 22, 2, 3) := lfg_0.2.2.2.2.2.2.2.1
theorem lf_20 : okF (2, 35, 2, 4) := lfg_0.2.2.2.2.2.2.2.2.1
theorem lf_32 : okF (3, 117, 2, 4) := lfg_0.2.2.2.2.2.2.2.2.2.1
theorem lf_17 : okF (2, 19, 2, 5) := lfg_0.2.2.2.2.2.2.2.2.2.2.1
theorem lf_48 : okF (4, 36, 4, 0) := lfg_0.2.2.2.2.2.2.2.2.2.2.2.1
theorem lf_85 : okF (6, 89, 4, 0) := lfg_0.2.2.2.2.2.2.2.2.2.2.2.2.1
theorem lf_69 : okF (5, 99, 4, 0) := lfg_0.2.2.2.2.2.2.2.2.2.2.2.2.2.1
theorem lf_33 : okF (3, 131, 4, 0) := lfg_0.2.2.2.2.2.2.2.2.2.2.2.2.2.2.1
theorem lf_49 : okF (4, 40, 4, 1) := lfg_0.2.2.2.2.2.2.2.2.2.2.2.2.2.2.2
set_option maxRecDepth 100000 in
theorem lfg_1 : okF (6, 92, 4, 1) ∧ okF (5, 102, 4, 1) ∧ okF (3, 134, 4, 1) ∧ okF (4, 43, 4, 2) ∧ okF (6, 95, 4, 2) ∧ okF (5, 96, 4, 2) ∧ okF (3, 140, 4, 2) ∧ okF (5, 27, 4, 3) ∧ okF (4, 46, 4, 3) ∧ okF (0, 39, 4, 3) ∧ okF (6, 98, 4, 3) ∧ okF (3, 143, 4, 3) ∧ okF (4, 49, 4, 4) ∧ okF (6, 101, 4, 4) ∧ okF (5, 105, 4, 4) ∧ okF (3, 154, 4, 4) := ⟨⟨by decide, by decide, lw_gd 128 10 rfl rfl⟩, ⟨by decide, by decide, lw_gd 128 11 rfl rfl⟩, ⟨by decide, by decide, lw_gd 128 12 rfl rfl⟩, ⟨by decide, by decide, lw_gd 128 13 rfl rfl⟩, ⟨by decide, by decide, lw_gd 128 14 rfl rfl⟩, ⟨by decide, by decide, lw_gd 128 15 rfl rfl⟩, ⟨by decide, by decide, lw_gd 128 16 rfl rfl⟩, ⟨by decide, by decide, lw_gd 128 17 rfl rfl⟩, ⟨by decide, by decide, lw_gd 128 18 rfl rfl⟩, ⟨by decide, by decide, lw_gd 128 19 rfl rfl⟩, ⟨by decide, by decide, lw_gd 128 20 rfl rfl⟩, ⟨by decide, by decide, lw_gd 128 21 rfl rfl⟩, ⟨by decide, by decide, lw_gd 128 22 rfl rfl⟩, ⟨by decide, by decide, lw_gd 128 23 rfl rfl⟩, ⟨by decide, by decide, lw_gd 128 24 rfl rfl⟩, ⟨by decide, by decide, lw_gd 128 25 rfl rfl⟩⟩
theorem lf_86 : okF (6, 92, 4, 1) := lfg_1.1
theorem lf_70 : okF (5, 102, 4, 1) := lfg_1.2.1
theorem lf_34 : okF (3, 134, 4, 1) := lfg_1.2.2.1
theorem lf_50 : okF (4, 43, 4, 2) := lfg_1.2.2.2.1
theorem lf_87 : okF (6, 95, 4, 2) := lfg_1.2.2.2.2.1
theorem lf_68 : okF (5, 96, 4, 2) := lfg_1.2.2.2.2.2.1
theorem lf_35 : okF (3, 140, 4, 2) := lfg_1.2.2.2.2.2.2.1
theorem lf_60 : okF (5, 27, 4, 3) := lfg_1.2.2.2.2.2.2.2.1
theorem lf_51 : okF (4, 46, 4, 3) := lfg_1.2.2.2.2.2.2.2.2.1
theorem lf_3 : okF (0, 39, 4, 3) := lfg_1.2.2.2.2.2.2.2.2.2.1
theorem lf_88 : okF (6, 98, 4, 3) := lfg_1.2.2.2.2.2.2.2.2.2.2.1
theorem lf_36 : okF (3, 143, 4, 3) := lfg_1.2.2.2.2.2.2.2.2.2.2.2.1
theorem lf_52 : okF (4, 49, 4, 4) := lfg_1.2.2.2.2.2.2.2.2.2.2.2.2.1
theorem lf_89 : okF (6, 101, 4, 4) := lfg_1.2.2.2.2.2.2.2.2.2.2.2.2.2.1
theorem lf_71 : okF (5, 105, 4, 4) := lfg_1.2.2.2.2.2.2.2.2.2.2.2.2.2.2.1
theorem lf_38 : okF (3, 154, 4, 4) := lfg_1.2.2.2.2.2.2.2.2.2.2.2.2.2.2.2
set_option maxRecDepth 100000 in
theorem lfg_2 : okF (4, 52, 4, 5) ∧ okF (5, 80, 4, 5) ∧ okF (6, 104, 4, 5) ∧ okF (4, 55, 4, 6) ∧ okF (0, 145, 4, 6) ∧ okF (6, 240, 4, 6) ∧ okF (4, 9, 4, 7) ∧ okF (5, 33, 4, 7) ∧ okF (6, 114, 4, 7) ∧ okF (0, 94, 4, 7) ∧ okF (3, 159, 4, 7) ∧ okF (4, 15, 4, 8) ∧ okF (5, 43, 4, 8) ∧ okF (6, 117, 4, 8) ∧ okF (0, 105, 4, 8) ∧ okF (4, 18, 4, 9) := ⟨⟨by decide, by decide, lw_gd 128 26 rfl rfl⟩, ⟨by decide, by decide, lw_gd 128 27 rfl rfl⟩, ⟨by decide, by decide, lw_gd 128 28 rfl rfl⟩, ⟨by decide, by decide, lw_gd 128 29 rfl rfl⟩, ⟨by decide, by decide, lw_gd 128 30 rfl rfl⟩, ⟨by decide, by decide, lw_gd 128 31 rfl rfl⟩, ⟨by decide, by decide, lw_gd 128 32 rfl rfl⟩, ⟨by decide, by decide, lw_gd 128 33 rfl rfl⟩, ⟨by decide, by decide, lw_gd 128 34 rfl rfl⟩, ⟨by decide, by decide, lw_gd 128 35 rfl rfl⟩, ⟨by decide, by decide, lw_gd 128 36 rfl rfl⟩, ⟨by decide, by decide, lw_gd 128 37 rfl rfl⟩, ⟨by decide, by decide, lw_gd 128 38 rfl rfl⟩, ⟨by decide, by decide, lw_gd 128 39 rfl rfl⟩, ⟨by decide, by decide, lw_gd 128 40 rfl rfl⟩, ⟨by decide, by decide, lw_gd 128 41 rfl rfl⟩⟩
theorem lf_53 : okF (4, 52, 4, 5) := lfg_2.1
theorem lf_65 : okF (5, 80, 4, 5) := lfg_2.2.1
theorem lf_90 : okF (6, 104, 4, 5) := lfg_2.2.2.1
theorem lf_54 : okF (4, 55, 4, 6) := lfg_2.2.2.2.1
theorem lf_8 : okF (0, 145, 4, 6) := lfg_2.2.2.2.2.1
theorem lf_99 : okF (6, 240, 4, 6) := lfg_2.2.2.2.2.2.1
theorem lf_41 : okF (4, 9, 4, 7) := lfg_2.2.2.2.2.2.2.1
theorem lf_61 : okF (5, 33, 4, 7) := lfg_2.2.2.2.2.2.2.2.1
theorem lf_92 : okF (6, 114, 4, 7) := lfg_2.2.2.2.2.2.2.2.2.1
theorem lf_5 : okF (0, 94, 4, 7) := lfg_2.2.2.2.2.2.2.2.2.2.1
theorem lf_40 : okF (3, 159, 4, 7) := lfg_2.2.2.2.2.2.2.2.2.2.2.1
theorem lf_42 : okF (4, 15, 4, 8) := lfg_2.2.2.2.2.2.2.2.2.2.2.2.1
theorem lf_62 : okF (5, 43, 4, 8) := lfg_2.2.2.2.2.2.2.2.2.2.2.2.2.1
theorem lf_93 : okF (6, 117, 4, 8) := lfg_2.2.2.2.2.2.2.2.2.2.2.2.2.2.1
theorem lf_6 : okF (0, 105, 4, 8) := lfg_2.2.2.2.2.2.2.2.2.2.2.2.2.2.2.1
theorem lf_43 : okF (4, 18, 4, 9) := lfg_2.2.2.2.2.2.2.2.2.2.2.2.2.2.2.2
set_option maxRecDepth 100000 in
theorem lfg_3 : okF (5, 50, 4, 9) ∧ okF (6, 120, 4, 9) ∧ okF (4, 21, 4, 10) ∧ okF (6, 123, 4, 10) ∧ okF (3, 156, 4, 10) ∧ okF (0, 115, 4, 10) ∧ okF (4, 24, 4, 11) ∧ okF (5, 62, 4, 11) ∧ okF (6, 107, 4, 11) ∧ okF (3, 150, 4, 11) ∧ okF (4, 27, 4, 12) ∧ okF (0, 148, 4, 12) ∧ okF (6, 243, 4, 12) ∧ okF (4, 30, 4, 13) ∧ okF (0, 154, 4, 13) ∧ okF (6, 246, 4, 13) := ⟨⟨by decide, by decide, lw_gd 128 42 rfl rfl⟩, ⟨by decide, by decide, lw_gd 128 43 rfl rfl⟩, ⟨by decide, by decide, lw_gd 128 44 rfl rfl⟩, ⟨by decide, by decide, lw_gd 128 45 rfl rfl⟩, ⟨by decide, by decide, lw_gd 128 46 rfl rfl⟩, ⟨by decide, by decide, lw_gd 128 47 rfl rfl⟩, ⟨by decide, by decide, lw_gd 128 48 rfl rfl⟩, ⟨by decide, by decide, lw_gd 128 49 rfl rfl⟩, ⟨by decide, by decide, lw_gd 128 50 rfl rfl⟩, ⟨by decide, by decide, lw_gd 128 51 rfl rfl⟩, ⟨by decide, by decide, lw_gd 128 52 rfl rfl⟩, ⟨by decide, by decide, lw_gd 128 53 rfl rfl⟩, ⟨by decide, by decide, lw_gd 128 54 rfl rfl⟩, ⟨by decide, by decide, lw_gd 128 55 rfl rfl⟩, ⟨by decide, by decide, lw_gd 128 56 rfl rfl⟩, ⟨by decide, by decide, lw_gd 128 57 rfl rfl⟩⟩
theorem lf_63 : okF (5, 50, 4, 9) := lfg_3.1
theorem lf_94 : okF (6, 120, 4, 9) := lfg_3.2.1
theorem lf_44 : okF (4, 21, 4, 10) := lfg_3.2.2.1
theorem lf_95 : okF (6, 123, 4, 10) := lfg_3.2.2.2.1
theorem lf_39 : okF (3, 156, 4, 10) := lfg_3.2.2.2.2.1
theorem lf_7 : okF (0, 115, 4, 10) := lfg_3.2.2.2.2.2.1
theorem lf_45 : okF (4, 24, 4, 11) := lfg_3.2.2.2.2.2.2.1
theorem lf_64 : okF (5, 62, 4, 11) := lfg_3.2.2.2.2.2.2.2.1
theorem lf_91 : okF (6, 107, 4, 11) := lfg_3.2.2.2.2.2.2.2.2.1
theorem lf_37 : okF (3, 150, 4, 11) := lfg_3.2.2.2.2.2.2.2.2.2.1
theorem lf_46 : okF (4, 27, 4, 12) := lfg_3.2.2.2.2.2.2.2.2.2.2.1
theorem lf_9 : okF (0, 148, 4, 12) := lfg_3.2.2.2.2.2.2.2.2.2.2.2.1
theorem lf_100 : okF (6, 243, 4, 12) := lfg_3.2.2.2.2.2.2.2.2.2.2.2.2.1
theorem lf_47 : okF (4, 30, 4, 13) := lfg_3.2.2.2.2.2.2.2.2.2.2.2.2.2.1
theorem lf_10 : okF (0, 154, 4, 13) := lfg_3.2.2.2.2.2.2.2.2.2.2.2.2.2.2.1
theorem lf_101 : okF (6, 246, 4, 13) := lfg_3.2.2.2.2.2.2.2.2.2.2.2.2.2.2.2
set_option maxRecDepth 100000 in
theorem lfg_4 : okF (3, 18, 3, 0) ∧ okF (6, 76, 3, 0) ∧ okF (3, 25, 3, 1) ∧ okF (6, 86, 3, 1) ∧ okF (3, 29, 3, 2) ∧ okF (6, 70, 3, 2) ∧ okF (3, 32, 3, 3) ∧ okF (6, 73, 3, 3) ∧ okF (3, 9, 3, 4) ∧ okF (3, 35, 3, 5) ∧ okF (3, 39, 3, 6) ∧ okF (3, 42, 3, 7) ∧ okF (5, 9, 5, 0) ∧ okF (5, 15, 5, 1) ∧ okF (5, 18, 5, 2) ∧ okF (6, 149, 5, 2) := ⟨⟨by decide, by decide, lw_gd 192 24 rfl rfl⟩, ⟨by decide, by decide, lw_gd 192 25 rfl rfl⟩, ⟨by decide, by decide, lw_gd 192 26 rfl rfl⟩, ⟨by decide, by decide, lw_gd 192 27 rfl rfl⟩, ⟨by decide, by decide, lw_gd 192 28 rfl rfl⟩, ⟨by decide, by decide, lw_gd 192 29 rfl rfl⟩, ⟨by decide, by decide, lw_gd 192 30 rfl rfl⟩, ⟨by decide, by decide, lw_gd 192 31 rfl rfl⟩, ⟨by decide, by decide, lw_gd 192 32 rfl rfl⟩, ⟨by decide, by decide, lw_gd 192 33 rfl rfl⟩, ⟨by decide, by decide, lw_gd 192 34 rfl rfl⟩, ⟨by decide, by decide, lw_gd 192 35 rfl rfl⟩, ⟨by decide, by decide, lw_gd 192 61 rfl rfl⟩, ⟨by decide, by decide, lw_gd 192 62 rfl rfl⟩, ⟨by decide, by decide, lw_gd 192 63 rfl rfl⟩, ⟨by decide, by decide, lw_gd 256 0 rfl rfl⟩⟩
theorem lf_22 : okF (3, 18, 3, 0) := lfg_4.1
theorem lf_82 : okF (6, 76, 3, 0) := lfg_4.2.1
theorem lf_23 : okF (3, 25, 3, 1) := lfg_4.2.2.1
theorem lf_84 : okF (6, 86, 3, 1) := lfg_4.2.2.2.1
theorem lf_24 : okF (3, 29, 3, 2) := lfg_4.2.2.2.2.1
theorem lf_80 : okF (6, 70, 3, 2) := lfg_4.2.2.2.2.2.1
theorem lf_25 : okF (3, 32, 3, 3) := lfg_4.2.2.2.2.2.2.1
theorem lf_81 : okF (6, 73, 3, 3) := lfg_4.2.2.2.2.2.2.2.1
theorem lf_21 : okF (3, 9, 3, 4) := lfg_4.2.2.2.2.2.2.2.2.1
theorem lf_26 : okF (3, 35, 3, 5) := lfg_4.2.2.2.2.2.2.2.2.2.1
theorem lf_27 : okF (3, 39, 3, 6) := lfg_4.2.2.2.2.2.2.2.2.2.2.1
theorem lf_28 : okF (3, 42, 3, 7) := lfg_4.2.2.2.2.2.2.2.2.2.2.2.1
theorem lf_55 : okF (5, 9, 5, 0) := lfg_4.2.2.2.2.2.2.2.2.2.2.2.2.1
theorem lf_56 : okF (5, 15, 5, 1) := lfg_4.2.2.2.2.2.2.2.2.2.2.2.2.2.1
theorem lf_57 : okF (5, 18, 5, 2) := lfg_4.2.2.2.2.2.2.2.2.2.2.2.2.2.2.1
theorem lf_96 : okF (6, 149, 5, 2) := lfg_4.2.2.2.2.2.2.2.2.2.2.2.2.2.2.2
set_option maxRecDepth 100000 in
theorem lfg_5 : okF (5, 21, 5, 3) ∧ okF (6, 152, 5, 3) ∧ okF (5, 24, 5, 4) ∧ okF (0, 43, 5, 4) ∧ okF (6, 155, 5, 4) ∧ okF (5, 90, 5, 5) ∧ okF (0, 158, 5, 5) ∧ okF (5, 93, 5, 6) ∧ okF (0, 9, 0, 0) ∧ okF (0, 18, 0, 1) ∧ okF (0, 22, 0, 2) ∧ okF (1, 9, 1, 0) ∧ okF (6, 284, 1, 0) ∧ okF (1, 15, 1, 1) ∧ okF (6, 302, 1, 1) ∧ okF (1, 19, 1, 2) := ⟨⟨by decide, by decide, lw_gd 256 1 rfl rfl⟩, ⟨by decide, by decide, lw_gd 256 2 rfl rfl⟩, ⟨by decide, by decide, lw_gd 256 3 rfl rfl⟩, ⟨by decide, by decide, lw_gd 256 4 rfl rfl⟩, ⟨by decide, by decide, lw_gd 256 5 rfl rfl⟩, ⟨by decide, by decide, lw_gd 256 6 rfl rfl⟩, ⟨by decide, by decide, lw_gd 256 7 rfl rfl⟩, ⟨by decide, by decide, lw_gd 256 8 rfl rfl⟩, ⟨by decide, by decide, lw_gd 256 32 rfl rfl⟩, ⟨by decide, by decide, lw_gd 256 33 rfl rfl⟩, ⟨by decide, by decide, lw_gd 256 34 rfl rfl⟩, ⟨by decide, by decide, lw_gd 256 51 rfl rfl⟩, ⟨by decide, by decide, lw_gd 256 52 rfl rfl⟩, ⟨by decide, by decide, lw_gd 256 53 rfl rfl⟩, ⟨by decide, by decide, lw_gd 256 54 rfl rfl⟩, ⟨by decide, by decide, lw_gd 256 55 rfl rfl⟩⟩
theorem lf_58 : okF (5, 21, 5, 3) := lfg_5.1
theorem lf_97 : okF (6, 152, 5, 3) := lfg_5.2.1
theorem lf_59 : okF (5, 24, 5, 4) := lfg_5.2.2.1
theorem lf_4 : okF (0, 43, 5, 4) := lfg_5.2.2.2.1
theorem lf_98 : okF (6, 155, 5, 4) := lfg_5.2.2.2.2.1
theorem lf_66 : okF (5, 90, 5, 5) := lfg_5.2.2.2.2.2.1
theorem lf_11 : okF (0, 158, 5, 5) := lfg_5.2.2.2.2.2.2.1
theorem lf_67 : okF (5, 93, 5, 6) := lfg_5.2.2.2.2.2.2.2.1
theorem lf_0 : okF (0, 9, 0, 0) := lfg_5.2.2.2.2.2.2.2.2.1
theorem lf_1 : okF (0, 18, 0, 1) := lfg_5.2.2.2.2.2.2.2.2.2.1
theorem lf_2 : okF (0, 22, 0, 2) := lfg_5.2.2.2.2.2.2.2.2.2.2.1
theorem lf_12 : okF (1, 9, 1, 0) := lfg_5.2.2.2.2.2.2.2.2.2.2.2.1
theorem lf_102 : okF (6, 284, 1, 0) := lfg_5.2.2.2.2.2.2.2.2.2.2.2.2.1
theorem lf_13 : okF (1, 15, 1, 1) := lfg_5.2.2.2.2.2.2.2.2.2.2.2.2.2.1
theorem lf_104 : okF (6, 302, 1, 1) := lfg_5.2.2.2.2.2.2.2.2.2.2.2.2.2.2.1
theorem lf_14 : okF (1, 19, 1, 2) := lfg_5.2.2.2.2.2.2.2.2.2.2.2.2.2.2.2
set_option maxRecDepth 100000 in
theorem lfg_6 : okF (6, 12, 6, 0) ∧ okF (6, 21, 6, 1) ∧ okF (6, 28, 6, 2) ∧ okF (6, 35, 6, 3) ∧ okF (6, 44, 6, 4) ∧ okF (6, 48, 6, 5) ∧ okF (6, 54, 6, 6) ∧ okF (6, 83, 6, 7) ∧ okF (6, 287, 6, 8) ∧ okF (7, 7, 7, 0) ∧ okF (7, 13, 7, 1) ∧ okF (7, 87, 7, 2) ∧ okF (7, 90, 7, 3) ∧ okF (7, 93, 7, 4) ∧ okF (7, 17, 7, 5) ∧ okF (7, 68, 7, 6) := ⟨⟨by decide, by decide, lw_gd 256 63 rfl rfl⟩, ⟨by decide, by decide, lw_gd 320 0 rfl rfl⟩, ⟨by decide, by decide, lw_gd 320 1 rfl rfl⟩, ⟨by decide, by decide, lw_gd 320 2 rfl rfl⟩, ⟨by decide, by decide, lw_gd 320 3 rfl rfl⟩, ⟨by decide, by decide, lw_gd 320 4 rfl rfl⟩, ⟨by decide, by decide, lw_gd 320 5 rfl rfl⟩, ⟨by decide, by decide, lw_gd 320 6 rfl rfl⟩, ⟨by decide, by decide, lw_gd 320 7 rfl rfl⟩, ⟨by decide, by decide, lw_gd 960 25 rfl rfl⟩, ⟨by decide, by decide, lw_gd 960 26 rfl rfl⟩, ⟨by decide, by decide, lw_gd 960 27 rfl rfl⟩, ⟨by decide, by decide, lw_gd 960 28 rfl rfl⟩, ⟨by decide, by decide, lw_gd 960 29 rfl rfl⟩, ⟨by decide, by decide, lw_gd 960 30 rfl rfl⟩, ⟨by decide, by decide, lw_gd 960 31 rfl rfl⟩⟩
theorem lf_72 : okF (6, 12, 6, 0) := lfg_6.1
theorem lf_73 : okF (6, 21, 6, 1) := lfg_6.2.1
theorem lf_74 : okF (6, 28, 6, 2) := lfg_6.2.2.1
theorem lf_75 : okF (6, 35, 6, 3) := lfg_6.2.2.2.1
theorem lf_76 : okF (6, 44, 6, 4) := lfg_6.2.2.2.2.1
theorem lf_77 : okF (6, 48, 6, 5) := lfg_6.2.2.2.2.2.1
theorem lf_78 : okF (6, 54, 6, 6) := lfg_6.2.2.2.2.2.2.1
theorem lf_83 : okF (6, 83, 6, 7) := lfg_6.2.2.2.2.2.2.2.1
theorem lf_103 : okF (6, 287, 6, 8) := lfg_6.2.2.2.2.2.2.2.2.1
theorem lf_105 : okF (7, 7, 7, 0) := lfg_6.2.2.2.2.2.2.2.2.2.1
theorem lf_106 : okF (7, 13, 7, 1) := lfg_6.2.2.2.2.2.2.2.2.2.2.1
theorem lf_128 : okF (7, 87, 7, 2) := lfg_6.2.2.2.2.2.2.2.2.2.2.2.1
theorem lf_129 : okF (7, 90, 7, 3) := lfg_6.2.2.2.2.2.2.2.2.2.2.2.2.1
theorem lf_130 : okF (7, 93, 7, 4) := lfg_6.2.2.2.2.2.2.2.2.2.2.2.2.2.1
theorem lf_107 : okF (7, 17, 7, 5) := lfg_6.2.2.2.2.2.2.2.2.2.2.2.2.2.2.1
theorem lf_122 : okF (7, 68, 7, 6) := lfg_6.2.2.2.2.2.2.2.2.2.2.2.2.2.2.2
set_option maxRecDepth 100000 in
theorem lfg_7 : okF (7, 72, 7, 7) ∧ okF (7, 75, 7, 8) ∧ okF (7, 78, 7, 9) ∧ okF (7, 81, 7, 10) ∧ okF (7, 84, 7, 11) ∧ okF (7, 20, 7, 12) ∧ okF (7, 102, 7, 13) ∧ okF (7, 114, 7, 14) ∧ okF (7, 108, 7, 15) ∧ okF (7, 128, 7, 16) ∧ okF (7, 139, 7, 17) ∧ okF (7, 105, 7, 18) ∧ okF (7, 111, 7, 19) ∧ okF (7, 23, 7, 20) ∧ okF (7, 26, 7, 21) ∧ okF (7, 29, 7, 22) := ⟨⟨by decide, by decide, lw_gd 960 32 rfl rfl⟩, ⟨by decide, by decide, lw_gd 960 33 rfl rfl⟩, ⟨by decide, by decide, lw_gd 960 34 rfl rfl⟩, ⟨by decide, by decide, lw_gd 960 35 rfl rfl⟩, ⟨by decide, by decide, lw_gd 960 36 rfl rfl⟩, ⟨by decide, by decide, lw_gd 960 37 rfl rfl⟩, ⟨by decide, by decide, lw_gd 960 38 rfl rfl⟩, ⟨by decide, by decide, lw_gd 960 39 rfl rfl⟩, ⟨by decide, by decide, lw_gd 960 40 rfl rfl⟩, ⟨by decide, by decide, lw_gd 960 41 rfl rfl⟩, ⟨by decide, by decide, lw_gd 960 42 rfl rfl⟩, ⟨by decide, by decide, lw_gd 960 43 rfl rfl⟩, ⟨by decide, by decide, lw_gd 960 44 rfl rfl⟩, ⟨by decide, by decide, lw_gd 960 45 rfl rfl⟩, ⟨by decide, by decide, lw_gd 960 46 rfl rfl⟩, ⟨by decide, by decide, lw_gd 960 47 rfl rfl⟩⟩
theorem lf_123 : okF (7, 72, 7, 7) := lfg_7.1
theorem lf_124 : okF (7, 75, 7, 8) := lfg_7.2.1
theorem lf_125 : okF (7, 78, 7, 9) := lfg_7.2.2.1
theorem lf_126 : okF (7, 81, 7, 10) := lfg_7.2.2.2.1
theorem lf_127 : okF (7, 84, 7, 11) := lfg_7.2.2.2.2.1
theorem lf_108 : okF (7, 20, 7, 12) := lfg_7.2.2.2.2.2.1
theorem lf_131 : okF (7, 102, 7, 13) := lfg_7.2.2.2.2.2.2.1
theorem lf_135 : okF (7, 114, 7, 14) := lfg_7.2.2.2.2.2.2.2.1
theorem lf_133 : okF (7, 108, 7, 15) := lfg_7.2.2.2.2.2.2.2.2.1
theorem lf_136 : okF (7, 128, 7, 16) := lfg_7.2.2.2.2.2.2.2.2.2.1
theorem lf_137 : okF (7, 139, 7, 17) := lfg_7.2.2.2.2.2.2.2.2.2.2.1
theorem lf_132 : okF (7, 105, 7, 18) := lfg_7.2.2.2.2.2.2.2.2.2.2.2.1
theorem lf_134 : okF (7, 111, 7, 19) := lfg_7.2.2.2.2.2.2.2.2.2.2.2.2.1
theorem lf_109 : okF (7, 23, 7, 20) := lfg_7.2.2.2.2.2.2.2.2.2.2.2.2.2.1
theorem lf_110 : okF (7, 26, 7, 21) := lfg_7.2.2.2.2.2.2.2.2.2.2.2.2.2.2.1
theorem lf_111 : okF (7, 29, 7, 22) := lfg_7.2.2.2.2.2.2.2.2.2.2.2.2.2.2.2
set_option maxRecDepth 100000 in
theorem lfg_8 : okF (7, 32, 7, 23) ∧ okF (7, 35, 7, 24) ∧ okF (7, 38, 7, 25) ∧ okF (7, 41, 7, 26) ∧ okF (7, 180, 7, 27) ∧ okF (7, 44, 7, 28) ∧ okF (7, 47, 7, 29) ∧ okF (7, 50, 7, 30) ∧ okF (7, 53, 7, 31) ∧ okF (7, 56, 7, 32) ∧ okF (7, 283, 7, 33) ∧ okF (7, 59, 7, 34) := ⟨⟨by decide, by decide, lw_gd 960 48 rfl rfl⟩, ⟨by decide, by decide, lw_gd 960 49 rfl rfl⟩, ⟨by decide, by decide, lw_gd 960 50 rfl rfl⟩, ⟨by decide, by decide, lw_gd 960 51 rfl rfl⟩, ⟨by decide, by decide, lw_gd 960 52 rfl rfl⟩, ⟨by decide, by decide, lw_gd 960 53 rfl rfl⟩, ⟨by decide, by decide, lw_gd 960 54 rfl rfl⟩, ⟨by decide, by decide, lw_gd 960 55 rfl rfl⟩, ⟨by decide, by decide, lw_gd 960 56 rfl rfl⟩, ⟨by decide, by decide, lw_gd 960 57 rfl rfl⟩, ⟨by decide, by decide, lw_gd 960 58 rfl rfl⟩, ⟨by decide, by decide, lw_gd 960 59 rfl rfl⟩⟩
theorem lf_112 : okF (7, 32, 7, 23) := lfg_8.1
theorem lf_113 : okF (7, 35, 7, 24) := lfg_8.2.1
theorem lf_114 : okF (7, 38, 7, 25) := lfg_8.2.2.1
theorem lf_115 : okF (7, 41, 7, 26) := lfg_8.2.2.2.1
theorem lf_138 : okF (7, 180, 7, 27) := lfg_8.2.2.2.2.1
theorem lf_116 : okF (7, 44, 7, 28) := lfg_8.2.2.2.2.2.1
theorem lf_117 : okF (7, 47, 7, 29) := lfg_8.2.2.2.2.2.2.1
theorem lf_118 : okF (7, 50, 7, 30) := lfg_8.2.2.2.2.2.2.2.1
theorem lf_119 : okF (7, 53, 7, 31) := lfg_8.2.2.2.2.2.2.2.2.1
theorem lf_120 : okF (7, 56, 7, 32) := lfg_8.2.2.2.2.2.2.2.2.2.1
theorem lf_139 : okF (7, 283, 7, 33) := lfg_8.2.2.2.2.2.2.2.2.2.2.1
theorem lf_121 : okF (7, 59, 7, 34) := lfg_8.2.2.2.2.2.2.2.2.2.2.2
def lkF_0 : List (Nat × Nat × Nat × Nat) := [(0, 9, 0, 0), (0, 18, 0, 1), (0, 22, 0, 2), (0, 39, 4, 3), (0, 43, 5, 4), (0, 94, 4, 7), (0, 105, 4, 8), (0, 115, 4, 10), (0, 145, 4, 6), (0, 148, 4, 12), (0, 154, 4, 13), (0, 158, 5, 5), (1, 9, 1, 0), (1, 15, 1, 1), (1, 19, 1, 2), (2, 9, 2, 0)]
theorem lkF_o0 : ∀ q ∈ lkF_0, okF q := List.forall_mem_cons.mpr ⟨lf_0, List.forall_mem_cons.mpr ⟨lf_1, List.forall_mem_cons.mpr ⟨lf_2, List.forall_mem_cons.mpr ⟨lf_3, List.forall_mem_cons.mpr ⟨lf_4, List.forall_mem_cons.mpr ⟨lf_5, List.forall_mem_cons.mpr ⟨lf_6, List.forall_mem_cons.mpr ⟨lf_7, List.forall_mem_cons.mpr ⟨lf_8, List.forall_mem_cons.mpr ⟨lf_9, List.forall_mem_cons.mpr ⟨lf_10, List.forall_mem_cons.mpr ⟨lf_11, List.forall_mem_cons.mpr ⟨lf_12, List.forall_mem_cons.mpr ⟨lf_13, List.forall_mem_cons.mpr ⟨lf_14, List.forall_mem_cons.mpr ⟨lf_15, fun _ h => absurd h List.not_mem_nil⟩⟩⟩⟩⟩⟩⟩⟩⟩⟩⟩⟩⟩⟩⟩⟩
def lkF_1 : List (Nat × Nat × Nat × Nat) := [(2, 15, 2, 1), (2, 19, 2, 5), (2, 22, 2, 3), (2, 25, 2, 2), (2, 35, 2, 4), (3, 9, 3, 4), (3, 18, 3, 0), (3, 25, 3, 1), (3, 29, 3, 2), (3, 32, 3, 3), (3, 35, 3, 5), (3, 39, 3, 6), (3, 42, 3, 7), (3, 53, 2, 2), (3, 66, 2, 1), (3, 73, 2, 3)]
theorem lkF_o1 : ∀ q ∈ lkF_1, okF q := List.forall_mem_cons.mpr ⟨lf_16, List.forall_mem_cons.mpr ⟨lf_17, List.forall_mem_cons.mpr ⟨lf_18, List.forall_mem_cons.mpr ⟨lf_19, List.forall_mem_cons.mpr ⟨lf_20, List.forall_mem_cons.mpr ⟨lf_21, List.forall_mem_cons.mpr ⟨lf_22, List.forall_mem_cons.mpr ⟨lf_23, List.forall_mem_cons.mpr ⟨lf_24, List.forall_mem_cons.mpr ⟨lf_25, List.forall_mem_cons.mpr ⟨lf_26, List.forall_mem_cons.mpr ⟨lf_27, List.forall_mem_cons.mpr ⟨lf_28, List.forall_mem_cons.mpr ⟨lf_29, List.forall_mem_cons.mpr ⟨lf_30, List.forall_mem_cons.mpr ⟨lf_31, fun _ h => absurd h List.not_mem_nil⟩⟩⟩⟩⟩⟩⟩⟩⟩⟩⟩⟩⟩⟩⟩⟩
def lkF_2 : List (Nat × Nat × Nat × Nat) := [(3, 117, 2, 4), (3, 131, 4, 0), (3, 134, 4, 1), (3, 140, 4, 2), (3, 143, 4, 3), (3, 150, 4, 11), (3, 154, 4, 4), (3, 156, 4, 10), (3, 159, 4, 7), (4, 9, 4, 7), (4, 15, 4, 8), (4, 18, 4, 9), (4, 21, 4, 10), (4, 24, 4, 11), (4, 27, 4, 12), (4, 30, 4, 13)]
theorem lkF_o2 : ∀ q ∈ lkF_2, okF q := List.forall_mem_cons.mpr ⟨lf_32, List.forall_mem_cons.mpr ⟨lf_33, List.forall_mem_cons.mpr ⟨lf_34, List.forall_mem_cons.mpr ⟨lf_35, List.forall_mem_cons.mpr ⟨lf_36, List.forall_mem_cons.mpr ⟨lf_37, List.forall_mem_cons.mpr ⟨lf_38, List.forall_mem_cons.mpr ⟨lf_39, List.forall_mem_cons.mpr ⟨lf_40, List.forall_mem_cons.mpr ⟨lf_41, List.forall_mem_cons.mpr ⟨lf_42, List.forall_mem_cons.mpr ⟨lf_43, List.forall_mem_cons.mpr ⟨lf_44, List.forall_mem_cons.mpr ⟨lf_45, List.forall_mem_cons.mpr ⟨lf_46, List.forall_mem_cons.mpr ⟨lf_47, fun _ h => absurd h List.not_mem_nil⟩⟩⟩⟩⟩⟩⟩⟩⟩⟩⟩⟩⟩⟩⟩⟩
def lkF_3 : List (Nat × Nat × Nat × Nat) := [(4, 36, 4, 0), (4, 40, 4, 1), (4, 43, 4, 2), (4, 46, 4, 3), (4, 49, 4, 4), (4, 52, 4, 5), (4, 55, 4, 6), (5, 9, 5, 0), (5, 15, 5, 1), (5, 18, 5, 2), (5, 21, 5, 3), (5, 24, 5, 4), (5, 27, 4, 3), (5, 33, 4, 7), (5, 43, 4, 8), (5, 50, 4, 9)]
theorem lkF_o3 : ∀ q ∈ lkF_3, okF q := List.forall_mem_cons.mpr ⟨lf_48, List.forall_mem_cons.mpr ⟨lf_49, List.forall_mem_cons.mpr ⟨lf_50, List.forall_mem_cons.mpr ⟨lf_51, List.forall_mem_cons.mpr ⟨lf_52, List.forall_mem_cons.mpr ⟨lf_53, List.forall_mem_cons.mpr ⟨lf_54, List.forall_mem_cons.mpr ⟨lf_55, List.forall_mem_cons.mpr ⟨lf_56, List.forall_mem_cons.mpr ⟨lf_57, List.forall_mem_cons.mpr ⟨lf_58, List.forall_mem_cons.mpr ⟨lf_59, List.forall_mem_cons.mpr ⟨lf_60, List.forall_mem_cons.mpr ⟨lf_61, List.forall_mem_cons.mpr ⟨lf_62, List.forall_mem_cons.mpr ⟨lf_63, fun _ h => absurd h List.not_mem_nil⟩⟩⟩⟩⟩⟩⟩⟩⟩⟩⟩⟩⟩⟩⟩⟩
def lkF_4 : List (Nat × Nat × Nat × Nat) := [(5, 62, 4, 11), (5, 80, 4, 5), (5, 90, 5, 5), (5, 93, 5, 6), (5, 96, 4, 2), (5, 99, 4, 0), (5, 102, 4, 1), (5, 105, 4, 4), (6, 12, 6, 0), (6, 21, 6, 1), (6, 28, 6, 2), (6, 35, 6, 3), (6, 44, 6, 4), (6, 48, 6, 5), (6, 54, 6, 6), (6, 63, 2, 1)]
theorem lkF_o4 : ∀ q ∈ lkF_4, okF q := List.forall_mem_cons.mpr ⟨lf_64, List.forall_mem_cons.mpr ⟨lf_65, List.forall_mem_cons.mpr ⟨lf_66, List.forall_mem_cons.mpr ⟨lf_67, List.forall_mem_cons.mpr ⟨lf_68, List.forall_mem_cons.mpr ⟨lf_69, List.forall_mem_cons.mpr ⟨lf_70, List.forall_mem_cons.mpr ⟨lf_71, List.forall_mem_cons.mpr ⟨lf_72, List.forall_mem_cons.mpr ⟨lf_73, List.forall_mem_cons.mpr ⟨lf_74, List.forall_mem_cons.mpr ⟨lf_75, List.forall_mem_cons.mpr ⟨lf_76, List.forall_mem_cons.mpr ⟨lf_77, List.forall_mem_cons.mpr ⟨lf_78, List.forall_mem_cons.mpr ⟨lf_79, fun _ h => absurd h List.not_mem_nil⟩⟩⟩⟩⟩⟩⟩⟩⟩⟩⟩⟩⟩⟩⟩⟩
def lkF_5 : List (Nat × Nat × Nat × Nat) := [(6, 70, 3, 2), (6, 73, 3, 3), (6, 76, 3, 0), (6, 83, 6, 7), (6, 86, 3, 1), (6, 89, 4, 0), (6, 92, 4, 1), (6, 95, 4, 2), (6, 98, 4, 3), (6, 101, 4, 4), (6, 104, 4, 5), (6, 107, 4, 11), (6, 114, 4, 7), (6, 117, 4, 8), (6, 120, 4, 9), (6, 123, 4, 10)]
theorem lkF_o5 : ∀ q ∈ lkF_5, okF q := List.forall_mem_cons.mpr ⟨lf_80, List.forall_mem_cons.mpr ⟨lf_81, List.forall_mem_cons.mpr ⟨lf_82, List.forall_mem_cons.mpr ⟨lf_83, List.forall_mem_cons.mpr ⟨lf_84, List.forall_mem_cons.mpr ⟨lf_85, List.forall_mem_cons.mpr ⟨lf_86, List.forall_mem_cons.mpr ⟨lf_87, List.forall_mem_cons.mpr ⟨lf_88, List.forall_mem_cons.mpr ⟨lf_89, List.forall_mem_cons.mpr ⟨lf_90, List.forall_mem_cons.mpr ⟨lf_91, List.forall_mem_cons.mpr ⟨lf_92, List.forall_mem_cons.mpr ⟨lf_93, List.forall_mem_cons.mpr ⟨lf_94, List.forall_mem_cons.mpr ⟨lf_95, fun _ h => absurd h List.not_mem_nil⟩⟩⟩⟩⟩⟩⟩⟩⟩⟩⟩⟩⟩⟩⟩⟩
def lkF_6 : List (Nat × Nat × Nat × Nat) := [(6, 149, 5, 2), (6, 152, 5, 3), (6, 155, 5, 4), (6, 240, 4, 6), (6, 243, 4, 12), (6, 246, 4, 13), (6, 284, 1, 0), (6, 287, 6, 8), (6, 302, 1, 1), (7, 7, 7, 0), (7, 13, 7, 1), (7, 17, 7, 5), (7, 20, 7, 12), (7, 23, 7, 20), (7, 26, 7, 21), (7, 29, 7, 22)]
theorem lkF_o6 : ∀ q ∈ lkF_6, okF q := List.forall_mem_cons.mpr ⟨lf_96, List.forall_mem_cons.mpr ⟨lf_97, List.forall_mem_cons.mpr ⟨lf_98, List.forall_mem_cons.mpr ⟨lf_99, List.forall_mem_cons.mpr ⟨lf_100, List.forall_mem_cons.mpr ⟨lf_101, List.forall_mem_cons.mpr ⟨lf_102, List.forall_mem_cons.mpr ⟨lf_103, List.forall_mem_cons.mpr ⟨lf_104, List.forall_mem_cons.mpr ⟨lf_105, List.forall_mem_cons.mpr ⟨lf_106, List.forall_mem_cons.mpr ⟨lf_107, List.forall_mem_cons.mpr ⟨lf_108, List.forall_mem_cons.mpr ⟨lf_109, List.forall_mem_cons.mpr ⟨lf_110, List.forall_mem_cons.mpr ⟨lf_111, fun _ h => absurd h List.not_mem_nil⟩⟩⟩⟩⟩⟩⟩⟩⟩⟩⟩⟩⟩⟩⟩⟩
def lkF_7 : List (Nat × Nat × Nat × Nat) := [(7, 32, 7, 23), (7, 35, 7, 24), (7, 38, 7, 25), (7, 41, 7, 26), (7, 44, 7, 28), (7, 47, 7, 29), (7, 50, 7, 30), (7, 53, 7, 31), (7, 56, 7, 32), (7, 59, 7, 34), (7, 68, 7, 6), (7, 72, 7, 7), (7, 75, 7, 8), (7, 78, 7, 9), (7, 81, 7, 10), (7, 84, 7, 11)]
theorem lkF_o7 : ∀ q ∈ lkF_7, okF q := List.forall_mem_cons.mpr ⟨lf_112, List.forall_mem_cons.mpr ⟨lf_113, List.forall_mem_cons.mpr ⟨lf_114, List.forall_mem_cons.mpr ⟨lf_115, List.forall_mem_cons.mpr ⟨lf_116, List.forall_mem_cons.mpr ⟨lf_117, List.forall_mem_cons.mpr ⟨lf_118, List.forall_mem_cons.mpr ⟨lf_119, List.forall_mem_cons.mpr ⟨lf_120, List.forall_mem_cons.mpr ⟨lf_121, List.forall_mem_cons.mpr ⟨lf_122, List.forall_mem_cons.mpr ⟨lf_123, List.forall_mem_cons.mpr ⟨lf_124, List.forall_mem_cons.mpr ⟨lf_125, List.forall_mem_cons.mpr ⟨lf_126, List.forall_mem_cons.mpr ⟨lf_127, fun _ h => absurd h List.not_mem_nil⟩⟩⟩⟩⟩⟩⟩⟩⟩⟩⟩⟩⟩⟩⟩⟩
def lkF_8 : List (Nat × Nat × Nat × Nat) := [(7, 87, 7, 2), (7, 90, 7, 3), (7, 93, 7, 4), (7, 102, 7, 13), (7, 105, 7, 18), (7, 108, 7, 15), (7, 111, 7, 19), (7, 114, 7, 14), (7, 128, 7, 16), (7, 139, 7, 17), (7, 180, 7, 27), (7, 283, 7, 33)]
theorem lkF_o8 : ∀ q ∈ lkF_8, okF q := List.forall_mem_cons.mpr ⟨lf_128, List.forall_mem_cons.mpr ⟨lf_129, List.forall_mem_cons.mpr ⟨lf_130, List.forall_mem_cons.mpr ⟨lf_131, List.forall_mem_cons.mpr ⟨lf_132, List.forall_mem_cons.mpr ⟨lf_133, List.forall_mem_cons.mpr ⟨lf_134, List.forall_mem_cons.mpr ⟨lf_135, List.forall_mem_cons.mpr ⟨lf_136, List.forall_mem_cons.mpr ⟨lf_137, List.forall_mem_cons.mpr ⟨lf_138, List.forall_mem_cons.mpr ⟨lf_139, fun _ h => absurd h List.not_mem_nil⟩⟩⟩⟩⟩⟩⟩⟩⟩⟩⟩⟩
def lkF : List (Nat × Nat × Nat × Nat) := lkF_0 ++ (lkF_1 ++ (lkF_2 ++ (lkF_3 ++ (lkF_4 ++ (lkF_5 ++ (lkF_6 ++ (lkF_7 ++ (lkF_8))))))))
theorem lkF_ok : ∀ q ∈ lkF, okF q := List.forall_mem_append.mpr ⟨lkF_o0, List.forall_mem_append.mpr ⟨lkF_o1, List.forall_mem_append.mpr ⟨lkF_o2, List.forall_mem_append.mpr ⟨lkF_o3, List.forall_mem_append.mpr ⟨lkF_o4, List.forall_mem_append.mpr ⟨lkF_o5, List.forall_mem_append.mpr ⟨lkF_o6, List.forall_mem_append.mpr ⟨lkF_o7, lkF_o8⟩⟩⟩⟩⟩⟩⟩⟩
def okM (q : Nat × Nat × Nat × Nat) : Prop := ∃ m2, pm_m q.2.2.1 = some m2 ∧ pm_hk q.2.2.2 m2 ∧ Cond.methodLink (kN q.1) q.2.1 (pm_y m2) ∈ lw_gt
set_option maxRecDepth 100000 in
theorem lmg_0 : okM (8, 9, 1, 1) ∧ okM (6, 11, 2, 1) ∧ okM (6, 18, 3, 1) ∧ okM (3, 17, 4, 1) ∧ okM (4, 33, 5, 0) ∧ okM (4, 58, 6, 2) ∧ okM (6, 27, 4, 1) ∧ okM (6, 34, 7, 1) ∧ okM (6, 41, 8, 1) ∧ okM (0, 17, 4, 1) ∧ okM (6, 58, 9, 1) ∧ okM (8, 13, 10, 0) ∧ okM (6, 59, 11, 0) ∧ okM (8, 18, 12, 0) ∧ okM (8, 22, 13, 0) ∧ okM (6, 67, 14, 0) := ⟨⟨m_1, rfl, hk_1, lw_gd 64 13 rfl rfl⟩, ⟨m_2, rfl, hk_2, lw_gd 64 21 rfl rfl⟩, ⟨m_3, rfl, hk_3, lw_gd 64 52 rfl rfl⟩, ⟨m_4, rfl, hk_4, lw_gd 64 58 rfl rfl⟩, ⟨m_5, rfl, hk_5, lw_gd 64 62 rfl rfl⟩, ⟨m_6, rfl, hk_6, lw_gd 128 2 rfl rfl⟩, ⟨m_4, rfl, hk_4, lw_gd 192 54 rfl rfl⟩, ⟨m_7, rfl, hk_7, lw_gd 192 57 rfl rfl⟩, ⟨m_8, rfl, hk_8, lw_gd 256 26 rfl rfl⟩, ⟨m_4, rfl, hk_4, lw_gd 256 31 rfl rfl⟩, ⟨m_9, rfl, hk_9, lw_gd 256 47 rfl rfl⟩, ⟨m_10, rfl, hk_10, lw_gd 320 27 rfl rfl⟩, ⟨m_11, rfl, hk_11, lw_gd 320 31 rfl rfl⟩, ⟨m_12, rfl, hk_12, lw_gd 320 35 rfl rfl⟩, ⟨m_13, rfl, hk_13, lw_gd 320 39 rfl rfl⟩, ⟨m_14, rfl, hk_14, lw_gd 320 43 rfl rfl⟩⟩
theorem lm_178 : okM (8, 9, 1, 1) := lmg_0.1
theorem lm_83 : okM (6, 11, 2, 1) := lmg_0.2.1
theorem lm_84 : okM (6, 18, 3, 1) := lmg_0.2.2.1
theorem lm_33 : okM (3, 17, 4, 1) := lmg_0.2.2.2.1
theorem lm_57 : okM (4, 33, 5, 0) := lmg_0.2.2.2.2.1
theorem lm_58 : okM (4, 58, 6, 2) := lmg_0.2.2.2.2.2.1
theorem lm_85 : okM (6, 27, 4, 1) := lmg_0.2.2.2.2.2.2.1
theorem lm_86 : okM (6, 34, 7, 1) := lmg_0.2.2.2.2.2.2.2.1
theorem lm_87 : okM (6, 41, 8, 1) := lmg_0.2.2.2.2.2.2.2.2.1
theorem lm_0 : okM (0, 17, 4, 1) := lmg_0.2.2.2.2.2.2.2.2.2.1
theorem lm_88 : okM (6, 58, 9, 1) := lmg_0.2.2.2.2.2.2.2.2.2.2.1
theorem lm_180 : okM (8, 13, 10, 0) := lmg_0.2.2.2.2.2.2.2.2.2.2.2.1
theorem lm_89 : okM (6, 59, 11, 0) := lmg_0.2.2.2.2.2.2.2.2.2.2.2.2.1
theorem lm_182 : okM (8, 18, 12, 0) := lmg_0.2.2.2.2.2.2.2.2.2.2.2.2.2.1
theorem lm_184 : okM (8, 22, 13, 0) := lmg_0.2.2.2.2.2.2.2.2.2.2.2.2.2.2.1
theorem lm_90 : okM (6, 67, 14, 0) := lmg_0.2.2.2.2.2.2.2.2.2.2.2.2.2.2.2
set_option maxRecDepth 100000 in
theorem lmg_1 : okM (3, 22, 5, 0) ∧ okM (3, 45, 15, 0) ∧ okM (3, 50, 16, 0) ∧ okM (2, 28, 17, 2) ∧ okM (2, 32, 18, 0) ∧ okM (3, 56, 19, 0) ∧ okM (3, 69, 20, 0) ∧ okM (3, 78, 21, 0) ∧ okM (3, 82, 22, 0) ∧ okM (3, 123, 23, 0) ∧ okM (3, 127, 24, 0) ∧ okM (3, 113, 25, 0) ∧ okM (3, 87, 26, 0) ∧ okM (3, 137, 27, 0) ∧ okM (3, 120, 28, 0) ∧ okM (4, 78, 29, 0) := ⟨⟨m_5, rfl, hk_5, lw_gd 320 47 rfl rfl⟩, ⟨m_15, rfl, hk_15, lw_gd 320 48 rfl rfl⟩, ⟨m_16, rfl, hk_16, lw_gd 320 52 rfl rfl⟩, ⟨m_17, rfl, hk_17, lw_gd 320 56 rfl rfl⟩, ⟨m_18, rfl, hk_18, lw_gd 320 59 rfl rfl⟩, ⟨m_19, rfl, hk_19, lw_gd 320 63 rfl rfl⟩, ⟨m_20, rfl, hk_20, lw_gd 384 3 rfl rfl⟩, ⟨m_21, rfl, hk_21, lw_gd 384 8 rfl rfl⟩, ⟨m_22, rfl, hk_22, lw_gd 384 60 rfl rfl⟩, ⟨m_23, rfl, hk_23, lw_gd 448 0 rfl rfl⟩, ⟨m_24, rfl, hk_24, lw_gd 448 4 rfl rfl⟩, ⟨m_25, rfl, hk_25, lw_gd 448 8 rfl rfl⟩, ⟨m_26, rfl, hk_26, lw_gd 448 13 rfl rfl⟩, ⟨m_27, rfl, hk_27, lw_gd 448 17 rfl rfl⟩, ⟨m_28, rfl, hk_28, lw_gd 448 21 rfl rfl⟩, ⟨m_29, rfl, hk_29, lw_gd 448 25 rfl rfl⟩⟩
theorem lm_34 : okM (3, 22, 5, 0) := lmg_1.1
theorem lm_35 : okM (3, 45, 15, 0) := lmg_1.2.1
theorem lm_36 : okM (3, 50, 16, 0) := lmg_1.2.2.1
theorem lm_31 : okM (2, 28, 17, 2) := lmg_1.2.2.2.1
theorem lm_32 : okM (2, 32, 18, 0) := lmg_1.2.2.2.2.1
theorem lm_37 : okM (3, 56, 19, 0) := lmg_1.2.2.2.2.2.1
theorem lm_40 : okM (3, 69, 20, 0) := lmg_1.2.2.2.2.2.2.1
theorem lm_41 : okM (3, 78, 21, 0) := lmg_1.2.2.2.2.2.2.2.1
theorem lm_42 : okM (3, 82, 22, 0) := lmg_1.2.2.2.2.2.2.2.2.1
theorem lm_50 : okM (3, 123, 23, 0) := lmg_1.2.2.2.2.2.2.2.2.2.1
theorem lm_51 : okM (3, 127, 24, 0) := lmg_1.2.2.2.2.2.2.2.2.2.2.1
theorem lm_48 : okM (3, 113, 25, 0) := lmg_1.2.2.2.2.2.2.2.2.2.2.2.1
theorem lm_43 : okM (3, 87, 26, 0) := lmg_1.2.2.2.2.2.2.2.2.2.2.2.2.1
theorem lm_52 : okM (3, 137, 27, 0) := lmg_1.2.2.2.2.2.2.2.2.2.2.2.2.2.1
theorem lm_49 : okM (3, 120, 28, 0) := lmg_1.2.2.2.2.2.2.2.2.2.2.2.2.2.2.1
theorem lm_61 : okM (4, 78, 29, 0) := lmg_1.2.2.2.2.2.2.2.2.2.2.2.2.2.2.2
set_option maxRecDepth 100000 in
theorem lmg_2 : okM (4, 82, 30, 0) ∧ okM (3, 92, 31, 0) ∧ okM (3, 146, 32, 0) ∧ okM (3, 100, 33, 0) ∧ okM (3, 105, 34, 0) ∧ okM (3, 110, 35, 0) ∧ okM (3, 59, 36, 0) ∧ okM (3, 62, 37, 0) ∧ okM (3, 162, 38, 0) ∧ okM (4, 74, 39, 0) ∧ okM (3, 165, 40, 0) ∧ okM (3, 168, 39, 0) ∧ okM (6, 79, 41, 0) ∧ okM (4, 64, 42, 0) ∧ okM (8, 27, 43, 0) ∧ okM (8, 31, 44, 0) := ⟨⟨m_30, rfl, hk_30, lw_gd 448 29 rfl rfl⟩, ⟨m_31, rfl, hk_31, lw_gd 448 34 rfl rfl⟩, ⟨m_32, rfl, hk_32, lw_gd 448 38 rfl rfl⟩, ⟨m_33, rfl, hk_33, lw_gd 448 44 rfl rfl⟩, ⟨m_34, rfl, hk_34, lw_gd 448 49 rfl rfl⟩, ⟨m_35, rfl, hk_35, lw_gd 448 54 rfl rfl⟩, ⟨m_36, rfl, hk_36, lw_gd 448 58 rfl rfl⟩, ⟨m_37, rfl, hk_37, lw_gd 448 62 rfl rfl⟩, ⟨m_38, rfl, hk_38, lw_gd 512 2 rfl rfl⟩, ⟨m_39, rfl, hk_39, lw_gd 512 6 rfl rfl⟩, ⟨m_40, rfl, hk_40, lw_gd 512 10 rfl rfl⟩, ⟨m_39, rfl, hk_39, lw_gd 512 14 rfl rfl⟩, ⟨m_41, rfl, hk_41, lw_gd 512 15 rfl rfl⟩, ⟨m_42, rfl, hk_42, lw_gd 512 19 rfl rfl⟩, ⟨m_43, rfl, hk_43, lw_gd 512 26 rfl rfl⟩, ⟨m_44, rfl, hk_44, lw_gd 512 30 rfl rfl⟩⟩
theorem lm_62 : okM (4, 82, 30, 0) := lmg_2.1
theorem lm_44 : okM (3, 92, 31, 0) := lmg_2.2.1
theorem lm_53 : okM (3, 146, 32, 0) := lmg_2.2.2.1
theorem lm_45 : okM (3, 100, 33, 0) := lmg_2.2.2.2.1
theorem lm_46 : okM (3, 105, 34, 0) := lmg_2.2.2.2.2.1
theorem lm_47 : okM (3, 110, 35, 0) := lmg_2.2.2.2.2.2.1
theorem lm_38 : okM (3, 59, 36, 0) := lmg_2.2.2.2.2.2.2.1
theorem lm_39 : okM (3, 62, 37, 0) := lmg_2.2.2.2.2.2.2.2.1
theorem lm_54 : okM (3, 162, 38, 0) := lmg_2.2.2.2.2.2.2.2.2.1
theorem lm_60 : okM (4, 74, 39, 0) := lmg_2.2.2.2.2.2.2.2.2.2.1
theorem lm_55 : okM (3, 165, 40, 0) := lmg_2.2.2.2.2.2.2.2.2.2.2.1
theorem lm_56 : okM (3, 168, 39, 0) := lmg_2.2.2.2.2.2.2.2.2.2.2.2.1
theorem lm_91 : okM (6, 79, 41, 0) := lmg_2.2.2.2.2.2.2.2.2.2.2.2.2.1
theorem lm_59 : okM (4, 64, 42, 0) := lmg_2.2.2.2.2.2.2.2.2.2.2.2.2.2.1
theorem lm_186 : okM (8, 27, 43, 0) := lmg_2.2.2.2.2.2.2.2.2.2.2.2.2.2.2.1
theorem lm_188 : okM (8, 31, 44, 0) := lmg_2.2.2.2.2.2.2.2.2.2.2.2.2.2.2.2
set_option maxRecDepth 100000 in
theorem lmg_3 : okM (8, 35, 45, 0) ∧ okM (6, 111, 40, 0) ∧ okM (8, 40, 46, 0) ∧ okM (6, 126, 38, 0) ∧ okM (6, 129, 30, 0) ∧ okM (8, 44, 47, 0) ∧ okM (6, 133, 48, 2) ∧ okM (8, 48, 49, 0) ∧ okM (6, 136, 50, 0) ∧ okM (4, 86, 28, 0) ∧ okM (8, 52, 51, 0) ∧ okM (8, 57, 52, 0) ∧ okM (8, 61, 53, 0) ∧ okM (6, 140, 29, 0) ∧ okM (8, 65, 54, 0) ∧ okM (8, 69, 55, 0) := ⟨⟨m_45, rfl, hk_45, lw_gd 512 34 rfl rfl⟩, ⟨m_40, rfl, hk_40, lw_gd 512 38 rfl rfl⟩, ⟨m_46, rfl, hk_46, lw_gd 512 39 rfl rfl⟩, ⟨m_38, rfl, hk_38, lw_gd 512 43 rfl rfl⟩, ⟨m_30, rfl, hk_30, lw_gd 512 44 rfl rfl⟩, ⟨m_47, rfl, hk_47, lw_gd 512 45 rfl rfl⟩, ⟨m_48, rfl, hk_48, lw_gd 512 49 rfl rfl⟩, ⟨m_49, rfl, hk_49, lw_gd 512 52 rfl rfl⟩, ⟨m_50, rfl, hk_50, lw_gd 512 56 rfl rfl⟩, ⟨m_28, rfl, hk_28, lw_gd 512 60 rfl rfl⟩, ⟨m_51, rfl, hk_51, lw_gd 512 61 rfl rfl⟩, ⟨m_52, rfl, hk_52, lw_gd 576 1 rfl rfl⟩, ⟨m_53, rfl, hk_53, lw_gd 576 5 rfl rfl⟩, ⟨m_29, rfl, hk_29, lw_gd 576 9 rfl rfl⟩, ⟨m_54, rfl, hk_54, lw_gd 576 10 rfl rfl⟩, ⟨m_55, rfl, hk_55, lw_gd 576 14 rfl rfl⟩⟩
theorem lm_190 : okM (8, 35, 45, 0) := lmg_3.1
theorem lm_92 : okM (6, 111, 40, 0) := lmg_3.2.1
theorem lm_192 : okM (8, 40, 46, 0) := lmg_3.2.2.1
theorem lm_93 : okM (6, 126, 38, 0) := lmg_3.2.2.2.1
theorem lm_94 : okM (6, 129, 30, 0) := lmg_3.2.2.2.2.1
theorem lm_194 : okM (8, 44, 47, 0) := lmg_3.2.2.2.2.2.1
theorem lm_95 : okM (6, 133, 48, 2) := lmg_3.2.2.2.2.2.2.1
theorem lm_196 : okM (8, 48, 49, 0) := lmg_3.2.2.2.2.2.2.2.1
theorem lm_96 : okM (6, 136, 50, 0) := lmg_3.2.2.2.2.2.2.2.2.1
theorem lm_63 : okM (4, 86, 28, 0) := lmg_3.2.2.2.2.2.2.2.2.2.1
theorem lm_198 : okM (8, 52, 51, 0) := lmg_3.2.2.2.2.2.2.2.2.2.2.1
theorem lm_200 : okM (8, 57, 52, 0) := lmg_3.2.2.2.2.2.2.2.2.2.2.2.1
theorem lm_202 : okM (8, 61, 53, 0) := lmg_3.2.2.2.2.2.2.2.2.2.2.2.2.1
theorem lm_97 : okM (6, 140, 29, 0) := lmg_3.2.2.2.2.2.2.2.2.2.2.2.2.2.1
theorem lm_204 : okM (8, 65, 54, 0) := lmg_3.2.2.2.2.2.2.2.2.2.2.2.2.2.2.1
theorem lm_206 : okM (8, 69, 55, 0) := lmg_3.2.2.2.2.2.2.2.2.2.2.2.2.2.2.2
set_option maxRecDepth 100000 in
theorem lmg_4 : okM (8, 73, 56, 0) ∧ okM (6, 143, 57, 2) ∧ okM (6, 146, 58, 0) ∧ okM (5, 36, 59, 0) ∧ okM (5, 40, 60, 0) ∧ okM (5, 46, 61, 0) ∧ okM (5, 57, 62, 2) ∧ okM (5, 65, 63, 2) ∧ okM (5, 53, 64, 2) ∧ okM (8, 77, 65, 0) ∧ okM (8, 81, 66, 0) ∧ okM (6, 158, 67, 0) ∧ okM (0, 26, 41, 0) ∧ okM (0, 36, 68, 0) ∧ okM (5, 70, 58, 0) ∧ okM (5, 74, 69, 0) := ⟨⟨m_56, rfl, hk_56, lw_gd 576 18 rfl rfl⟩, ⟨m_57, rfl, hk_57, lw_gd 576 22 rfl rfl⟩, ⟨m_58, rfl, hk_58, lw_gd 576 25 rfl rfl⟩, ⟨m_59, rfl, hk_59, lw_gd 576 29 rfl rfl⟩, ⟨m_60, rfl, hk_60, lw_gd 576 33 rfl rfl⟩, ⟨m_61, rfl, hk_61, lw_gd 576 37 rfl rfl⟩, ⟨m_62, rfl, hk_62, lw_gd 576 41 rfl rfl⟩, ⟨m_63, rfl, hk_63, lw_gd 576 44 rfl rfl⟩, ⟨m_64, rfl, hk_64, lw_gd 576 47 rfl rfl⟩, ⟨m_65, rfl, hk_65, lw_gd 576 50 rfl rfl⟩, ⟨m_66, rfl, hk_66, lw_gd 576 54 rfl rfl⟩, ⟨m_67, rfl, hk_67, lw_gd 576 58 rfl rfl⟩, ⟨m_41, rfl, hk_41, lw_gd 576 62 rfl rfl⟩, ⟨m_68, rfl, hk_68, lw_gd 576 63 rfl rfl⟩, ⟨m_58, rfl, hk_58, lw_gd 640 3 rfl rfl⟩, ⟨m_69, rfl, hk_69, lw_gd 640 4 rfl rfl⟩⟩
theorem lm_208 : okM (8, 73, 56, 0) := lmg_4.1
theorem lm_98 : okM (6, 143, 57, 2) := lmg_4.2.1
theorem lm_99 : okM (6, 146, 58, 0) := lmg_4.2.2.1
theorem lm_70 : okM (5, 36, 59, 0) := lmg_4.2.2.2.1
theorem lm_71 : okM (5, 40, 60, 0) := lmg_4.2.2.2.2.1
theorem lm_72 : okM (5, 46, 61, 0) := lmg_4.2.2.2.2.2.1
theorem lm_74 : okM (5, 57, 62, 2) := lmg_4.2.2.2.2.2.2.1
theorem lm_75 : okM (5, 65, 63, 2) := lmg_4.2.2.2.2.2.2.2.1
theorem lm_73 : okM (5, 53, 64, 2) := lmg_4.2.2.2.2.2.2.2.2.1
theorem lm_210 : okM (8, 77, 65, 0) := lmg_4.2.2.2.2.2.2.2.2.2.1
theorem lm_212 : okM (8, 81, 66, 0) := lmg_4.2.2.2.2.2.2.2.2.2.2.1
theorem lm_100 : okM (6, 158, 67, 0) := lmg_4.2.2.2.2.2.2.2.2.2.2.2.1
theorem lm_1 : okM (0, 26, 41, 0) := lmg_4.2.2.2.2.2.2.2.2.2.2.2.2.1
theorem lm_3 : okM (0, 36, 68, 0) := lmg_4.2.2.2.2.2.2.2.2.2.2.2.2.2.1
theorem lm_76 : okM (5, 70, 58, 0) := lmg_4.2.2.2.2.2.2.2.2.2.2.2.2.2.2.1
theorem lm_77 : okM (5, 74, 69, 0) := lmg_4.2.2.2.2.2.2.2.2.2.2.2.2.2.2.2
set_option maxRecDepth 100000 in
theorem lmg_5 : okM (5, 77, 70, 0) ∧ okM (5, 108, 71, 0) ∧ okM (0, 47, 73, 0) ∧ okM (8, 85, 74, 0) ∧ okM (6, 162, 62, 2) ∧ okM (8, 89, 75, 0) ∧ okM (6, 167, 76, 0) ∧ okM (5, 83, 68, 0) ∧ okM (5, 86, 77, 0) ∧ okM (6, 171, 78, 0) ∧ okM (8, 93, 79, 0) ∧ okM (6, 175, 80, 0) ∧ okM (0, 30, 76, 0) ∧ okM (8, 98, 81, 0) ∧ okM (6, 179, 82, 0) ∧ okM (0, 51, 83, 0) := ⟨⟨m_70, rfl, hk_70, lw_gd 640 8 rfl rfl⟩, ⟨m_71, rfl, hk_71, lw_gd 640 12 rfl rfl⟩, ⟨m_73, rfl, hk_73, lw_gd 640 19 rfl rfl⟩, ⟨m_74, rfl, hk_74, lw_gd 640 23 rfl rfl⟩, ⟨m_62, rfl, hk_62, lw_gd 640 27 rfl rfl⟩, ⟨m_75, rfl, hk_75, lw_gd 640 28 rfl rfl⟩, ⟨m_76, rfl, hk_76, lw_gd 640 32 rfl rfl⟩, ⟨m_68, rfl, hk_68, lw_gd 640 36 rfl rfl⟩, ⟨m_77, rfl, hk_77, lw_gd 640 37 rfl rfl⟩, ⟨m_78, rfl, hk_78, lw_gd 640 41 rfl rfl⟩, ⟨m_79, rfl, hk_79, lw_gd 640 45 rfl rfl⟩, ⟨m_80, rfl, hk_80, lw_gd 640 49 rfl rfl⟩, ⟨m_76, rfl, hk_76, lw_gd 640 53 rfl rfl⟩, ⟨m_81, rfl, hk_81, lw_gd 640 54 rfl rfl⟩, ⟨m_82, rfl, hk_82, lw_gd 640 58 rfl rfl⟩, ⟨m_83, rfl, hk_83, lw_gd 640 62 rfl rfl⟩⟩
theorem lm_78 : okM (5, 77, 70, 0) := lmg_5.1
theorem lm_81 : okM (5, 108, 71, 0) := lmg_5.2.1
theorem lm_4 : okM (0, 47, 73, 0) := lmg_5.2.2.1
theorem lm_214 : okM (8, 85, 74, 0) := lmg_5.2.2.2.1
theorem lm_101 : okM (6, 162, 62, 2) := lmg_5.2.2.2.2.1
theorem lm_216 : okM (8, 89, 75, 0) := lmg_5.2.2.2.2.2.1
theorem lm_102 : okM (6, 167, 76, 0) := lmg_5.2.2.2.2.2.2.1
theorem lm_79 : okM (5, 83, 68, 0) := lmg_5.2.2.2.2.2.2.2.1
theorem lm_80 : okM (5, 86, 77, 0) := lmg_5.2.2.2.2.2.2.2.2.1
theorem lm_103 : okM (6, 171, 78, 0) := lmg_5.2.2.2.2.2.2.2.2.2.1
theorem lm_218 : okM (8, 93, 79, 0) := lmg_5.2.2.2.2.2.2.2.2.2.2.1
theorem lm_104 : okM (6, 175, 80, 0) := lmg_5.2.2.2.2.2.2.2.2.2.2.2.1
theorem lm_2 : okM (0, 30, 76, 0) := lmg_5.2.2.2.2.2.2.2.2.2.2.2.2.1
theorem lm_220 : okM (8, 98, 81, 0) := lmg_5.2.2.2.2.2.2.2.2.2.2.2.2.2.1
theorem lm_105 : okM (6, 179, 82, 0) := lmg_5.2.2.2.2.2.2.2.2.2.2.2.2.2.2.1
theorem lm_5 : okM (0, 51, 83, 0) := lmg_5.2.2.2.2.2.2.2.2.2.2.2.2.2.2.2
set_option maxRecDepth 100000 in
theorem lmg_6 : okM (0, 55, 77, 0) ∧ okM (8, 102, 84, 0) ∧ okM (6, 182, 85, 0) ∧ okM (0, 58, 86, 0) ∧ okM (6, 185, 87, 2) ∧ okM (6, 188, 88, 2) ∧ okM (8, 106, 89, 0) ∧ okM (6, 191, 90, 2) ∧ okM (6, 194, 91, 0) ∧ okM (6, 197, 92, 0) ∧ okM (0, 66, 94, 0) ∧ okM (4, 110, 95, 0) ∧ okM (0, 69, 97, 0) ∧ okM (0, 73, 42, 0) ∧ okM (0, 76, 98, 0) ∧ okM (0, 80, 99, 0) := ⟨⟨m_77, rfl, hk_77, lw_gd 704 2 rfl rfl⟩, ⟨m_84, rfl, hk_84, lw_gd 704 3 rfl rfl⟩, ⟨m_85, rfl, hk_85, lw_gd 704 7 rfl rfl⟩, ⟨m_86, rfl, hk_86, lw_gd 704 11 rfl rfl⟩, ⟨m_87, rfl, hk_87, lw_gd 704 16 rfl rfl⟩, ⟨m_88, rfl, hk_88, lw_gd 704 19 rfl rfl⟩, ⟨m_89, rfl, hk_89, lw_gd 704 22 rfl rfl⟩, ⟨m_90, rfl, hk_90, lw_gd 704 26 rfl rfl⟩, ⟨m_91, rfl, hk_91, lw_gd 704 29 rfl rfl⟩, ⟨m_92, rfl, hk_92, lw_gd 704 33 rfl rfl⟩, ⟨m_94, rfl, hk_94, lw_gd 704 40 rfl rfl⟩, ⟨m_95, rfl, hk_95, lw_gd 704 44 rfl rfl⟩, ⟨m_97, rfl, hk_97, lw_gd 704 51 rfl rfl⟩, ⟨m_42, rfl, hk_42, lw_gd 704 55 rfl rfl⟩, ⟨m_98, rfl, hk_98, lw_gd 704 56 rfl rfl⟩, ⟨m_99, rfl, hk_99, lw_gd 704 60 rfl rfl⟩⟩
theorem lm_6 : okM (0, 55, 77, 0) := lmg_6.1
theorem lm_222 : okM (8, 102, 84, 0) := lmg_6.2.1
theorem lm_106 : okM (6, 182, 85, 0) := lmg_6.2.2.1
theorem lm_7 : okM (0, 58, 86, 0) := lmg_6.2.2.2.1
theorem lm_107 : okM (6, 185, 87, 2) := lmg_6.2.2.2.2.1
theorem lm_108 : okM (6, 188, 88, 2) := lmg_6.2.2.2.2.2.1
theorem lm_224 : okM (8, 106, 89, 0) := lmg_6.2.2.2.2.2.2.1
theorem lm_109 : okM (6, 191, 90, 2) := lmg_6.2.2.2.2.2.2.2.1
theorem lm_110 : okM (6, 194, 91, 0) := lmg_6.2.2.2.2.2.2.2.2.1
theorem lm_111 : okM (6, 197, 92, 0) := lmg_6.2.2.2.2.2.2.2.2.2.1
theorem lm_8 : okM (0, 66, 94, 0) := lmg_6.2.2.2.2.2.2.2.2.2.2.1
theorem lm_69 : okM (4, 110, 95, 0) := lmg_6.2.2.2.2.2.2.2.2.2.2.2.1
theorem lm_9 : okM (0, 69, 97, 0) := lmg_6.2.2.2.2.2.2.2.2.2.2.2.2.1
theorem lm_10 : okM (0, 73, 42, 0) := lmg_6.2.2.2.2.2.2.2.2.2.2.2.2.2.1
theorem lm_11 : okM (0, 76, 98, 0) := lmg_6.2.2.2.2.2.2.2.2.2.2.2.2.2.2.1
theorem lm_12 : okM (0, 80, 99, 0) := lmg_6.2.2.2.2.2.2.2.2.2.2.2.2.2.2.2
set_option maxRecDepth 100000 in
theorem lmg_7 : okM (4, 100, 78, 0) ∧ okM (4, 103, 100, 0) ∧ okM (6, 201, 94, 0) ∧ okM (6, 204, 95, 0) ∧ okM (8, 110, 101, 0) ∧ okM (6, 208, 102, 0) ∧ okM (0, 83, 103, 0) ∧ okM (8, 114, 104, 0) ∧ okM (6, 211, 105, 0) ∧ okM (0, 86, 39, 0) ∧ okM (0, 90, 50, 0) ∧ okM (8, 118, 106, 0) ∧ okM (6, 214, 107, 0) ∧ okM (0, 97, 108, 0) ∧ okM (0, 101, 109, 0) ∧ okM (4, 89, 59, 0) := ⟨⟨m_78, rfl, hk_78, lw_gd 768 0 rfl rfl⟩, ⟨m_100, rfl, hk_100, lw_gd 768 1 rfl rfl⟩, ⟨m_94, rfl, hk_94, lw_gd 768 5 rfl rfl⟩, ⟨m_95, rfl, hk_95, lw_gd 768 6 rfl rfl⟩, ⟨m_101, rfl, hk_101, lw_gd 768 7 rfl rfl⟩, ⟨m_102, rfl, hk_102, lw_gd 768 11 rfl rfl⟩, ⟨m_103, rfl, hk_103, lw_gd 768 15 rfl rfl⟩, ⟨m_104, rfl, hk_104, lw_gd 768 19 rfl rfl⟩, ⟨m_105, rfl, hk_105, lw_gd 768 23 rfl rfl⟩, ⟨m_39, rfl, hk_39, lw_gd 768 27 rfl rfl⟩, ⟨m_50, rfl, hk_50, lw_gd 768 28 rfl rfl⟩, ⟨m_106, rfl, hk_106, lw_gd 768 29 rfl rfl⟩, ⟨m_107, rfl, hk_107, lw_gd 768 33 rfl rfl⟩, ⟨m_108, rfl, hk_108, lw_gd 768 37 rfl rfl⟩, ⟨m_109, rfl, hk_109, lw_gd 768 42 rfl rfl⟩, ⟨m_59, rfl, hk_59, lw_gd 768 46 rfl rfl⟩⟩
theorem lm_67 : okM (4, 100, 78, 0) := lmg_7.1
theorem lm_68 : okM (4, 103, 100, 0) := lmg_7.2.1
theorem lm_112 : okM (6, 201, 94, 0) := lmg_7.2.2.1
theorem lm_113 : okM (6, 204, 95, 0) := lmg_7.2.2.2.1
theorem lm_226 : okM (8, 110, 101, 0) := lmg_7.2.2.2.2.1
theorem lm_114 : okM (6, 208, 102, 0) := lmg_7.2.2.2.2.2.1
theorem lm_13 : okM (0, 83, 103, 0) := lmg_7.2.2.2.2.2.2.1
theorem lm_228 : okM (8, 114, 104, 0) := lmg_7.2.2.2.2.2.2.2.1
theorem lm_115 : okM (6, 211, 105, 0) := lmg_7.2.2.2.2.2.2.2.2.1
theorem lm_14 : okM (0, 86, 39, 0) := lmg_7.2.2.2.2.2.2.2.2.2.1
theorem lm_15 : okM (0, 90, 50, 0) := lmg_7.2.2.2.2.2.2.2.2.2.2.1
theorem lm_230 : okM (8, 118, 106, 0) := lmg_7.2.2.2.2.2.2.2.2.2.2.2.1
theorem lm_116 : okM (6, 214, 107, 0) := lmg_7.2.2.2.2.2.2.2.2.2.2.2.2.1
theorem lm_16 : okM (0, 97, 108, 0) := lmg_7.2.2.2.2.2.2.2.2.2.2.2.2.2.1
theorem lm_17 : okM (0, 101, 109, 0) := lmg_7.2.2.2.2.2.2.2.2.2.2.2.2.2.2.1
theorem lm_64 : okM (4, 89, 59, 0) := lmg_7.2.2.2.2.2.2.2.2.2.2.2.2.2.2.2
set_option maxRecDepth 100000 in
theorem lmg_8 : okM (4, 92, 62, 2) ∧ okM (4, 97, 60, 0) ∧ okM (6, 218, 96, 2) ∧ okM (8, 123, 110, 0) ∧ okM (6, 222, 111, 0) ∧ okM (0, 112, 28, 0) ∧ okM (0, 118, 32, 0) ∧ okM (0, 122, 78, 0) ∧ okM (0, 125, 88, 2) ∧ okM (8, 127, 112, 0) ∧ okM (6, 228, 113, 0) ∧ okM (0, 128, 114, 2) ∧ okM (0, 132, 115, 0) ∧ okM (6, 232, 116, 0) ∧ okM (6, 236, 117, 2) ∧ okM (8, 132, 118, 0) := ⟨⟨m_62, rfl, hk_62, lw_gd 768 47 rfl rfl⟩, ⟨m_60, rfl, hk_60, lw_gd 768 48 rfl rfl⟩, ⟨m_96, rfl, hk_96, lw_gd 768 49 rfl rfl⟩, ⟨m_110, rfl, hk_110, lw_gd 768 50 rfl rfl⟩, ⟨m_111, rfl, hk_111, lw_gd 768 54 rfl rfl⟩, ⟨m_28, rfl, hk_28, lw_gd 768 58 rfl rfl⟩, ⟨m_32, rfl, hk_32, lw_gd 768 59 rfl rfl⟩, ⟨m_78, rfl, hk_78, lw_gd 768 60 rfl rfl⟩, ⟨m_88, rfl, hk_88, lw_gd 768 61 rfl rfl⟩, ⟨m_112, rfl, hk_112, lw_gd 768 62 rfl rfl⟩, ⟨m_113, rfl, hk_113, lw_gd 832 3 rfl rfl⟩, ⟨m_114, rfl, hk_114, lw_gd 832 7 rfl rfl⟩, ⟨m_115, rfl, hk_115, lw_gd 832 10 rfl rfl⟩, ⟨m_116, rfl, hk_116, lw_gd 832 15 rfl rfl⟩, ⟨m_117, rfl, hk_117, lw_gd 832 20 rfl rfl⟩, ⟨m_118, rfl, hk_118, lw_gd 832 23 rfl rfl⟩⟩
theorem lm_65 : okM (4, 92, 62, 2) := lmg_8.1
theorem lm_66 : okM (4, 97, 60, 0) := lmg_8.2.1
theorem lm_117 : okM (6, 218, 96, 2) := lmg_8.2.2.1
theorem lm_232 : okM (8, 123, 110, 0) := lmg_8.2.2.2.1
theorem lm_118 : okM (6, 222, 111, 0) := lmg_8.2.2.2.2.1
theorem lm_18 : okM (0, 112, 28, 0) := lmg_8.2.2.2.2.2.1
theorem lm_19 : okM (0, 118, 32, 0) := lmg_8.2.2.2.2.2.2.1
theorem lm_20 : okM (0, 122, 78, 0) := lmg_8.2.2.2.2.2.2.2.1
theorem lm_21 : okM (0, 125, 88, 2) := lmg_8.2.2.2.2.2.2.2.2.1
theorem lm_234 : okM (8, 127, 112, 0) := lmg_8.2.2.2.2.2.2.2.2.2.1
theorem lm_119 : okM (6, 228, 113, 0) := lmg_8.2.2.2.2.2.2.2.2.2.2.1
theorem lm_22 : okM (0, 128, 114, 2) := lmg_8.2.2.2.2.2.2.2.2.2.2.2.1
theorem lm_23 : okM (0, 132, 115, 0) := lmg_8.2.2.2.2.2.2.2.2.2.2.2.2.1
theorem lm_120 : okM (6, 232, 116, 0) := lmg_8.2.2.2.2.2.2.2.2.2.2.2.2.2.1
theorem lm_121 : okM (6, 236, 117, 2) := lmg_8.2.2.2.2.2.2.2.2.2.2.2.2.2.2.1
theorem lm_236 : okM (8, 132, 118, 0) := lmg_8.2.2.2.2.2.2.2.2.2.2.2.2.2.2.2
set_option maxRecDepth 100000 in
theorem lmg_9 : okM (8, 136, 119, 0) ∧ okM (8, 140, 120, 0) ∧ okM (6, 249, 121, 0) ∧ okM (0, 138, 122, 0) ∧ okM (0, 151, 123, 0) ∧ okM (5, 114, 73, 0) ∧ okM (6, 252, 124, 0) ∧ okM (0, 142, 95, 0) ∧ okM (8, 144, 125, 0) ∧ okM (6, 255, 126, 0) ∧ okM (0, 161, 127, 2) ∧ okM (8, 148, 128, 0) ∧ okM (8, 152, 129, 0) ∧ okM (8, 156, 130, 0) ∧ okM (6, 258, 131, 2) ∧ okM (6, 261, 132, 2) := ⟨⟨m_119, rfl, hk_119, lw_gd 832 27 rfl rfl⟩, ⟨m_120, rfl, hk_120, lw_gd 832 31 rfl rfl⟩, ⟨m_121, rfl, hk_121, lw_gd 832 35 rfl rfl⟩, ⟨m_122, rfl, hk_122, lw_gd 832 39 rfl rfl⟩, ⟨m_123, rfl, hk_123, lw_gd 832 43 rfl rfl⟩, ⟨m_73, rfl, hk_73, lw_gd 832 47 rfl rfl⟩, ⟨m_124, rfl, hk_124, lw_gd 832 48 rfl rfl⟩, ⟨m_95, rfl, hk_95, lw_gd 832 52 rfl rfl⟩, ⟨m_125, rfl, hk_125, lw_gd 832 53 rfl rfl⟩, ⟨m_126, rfl, hk_126, lw_gd 832 57 rfl rfl⟩, ⟨m_127, rfl, hk_127, lw_gd 832 62 rfl rfl⟩, ⟨m_128, rfl, hk_128, lw_gd 896 4 rfl rfl⟩, ⟨m_129, rfl, hk_129, lw_gd 896 8 rfl rfl⟩, ⟨m_130, rfl, hk_130, lw_gd 896 12 rfl rfl⟩, ⟨m_131, rfl, hk_131, lw_gd 896 16 rfl rfl⟩, ⟨m_132, rfl, hk_132, lw_gd 896 19 rfl rfl⟩⟩
theorem lm_238 : okM (8, 136, 119, 0) := lmg_9.1
theorem lm_240 : okM (8, 140, 120, 0) := lmg_9.2.1
theorem lm_122 : okM (6, 249, 121, 0) := lmg_9.2.2.1
theorem lm_24 : okM (0, 138, 122, 0) := lmg_9.2.2.2.1
theorem lm_26 : okM (0, 151, 123, 0) := lmg_9.2.2.2.2.1
theorem lm_82 : okM (5, 114, 73, 0) := lmg_9.2.2.2.2.2.1
theorem lm_123 : okM (6, 252, 124, 0) := lmg_9.2.2.2.2.2.2.1
theorem lm_25 : okM (0, 142, 95, 0) := lmg_9.2.2.2.2.2.2.2.1
theorem lm_242 : okM (8, 144, 125, 0) := lmg_9.2.2.2.2.2.2.2.2.1
theorem lm_124 : okM (6, 255, 126, 0) := lmg_9.2.2.2.2.2.2.2.2.2.1
theorem lm_27 : okM (0, 161, 127, 2) := lmg_9.2.2.2.2.2.2.2.2.2.2.1
theorem lm_244 : okM (8, 148, 128, 0) := lmg_9.2.2.2.2.2.2.2.2.2.2.2.1
theorem lm_246 : okM (8, 152, 129, 0) := lmg_9.2.2.2.2.2.2.2.2.2.2.2.2.1
theorem lm_248 : okM (8, 156, 130, 0) := lmg_9.2.2.2.2.2.2.2.2.2.2.2.2.2.1
theorem lm_125 : okM (6, 258, 131, 2) := lmg_9.2.2.2.2.2.2.2.2.2.2.2.2.2.2.1
theorem lm_126 : okM (6, 261, 132, 2) := lmg_9.2.2.2.2.2.2.2.2.2.2.2.2.2.2.2
set_option maxRecDepth 100000 in
theorem lmg_10 : okM (6, 264, 133, 0) ∧ okM (1, 22, 6, 2) ∧ okM (8, 160, 134, 0) ∧ okM (6, 268, 135, 0) ∧ okM (1, 28, 136, 0) ∧ okM (6, 271, 137, 0) ∧ okM (8, 164, 138, 0) ∧ okM (6, 274, 139, 0) ∧ okM (6, 277, 140, 0) ∧ okM (1, 32, 135, 0) ∧ okM (6, 280, 141, 0) ∧ okM (8, 168, 142, 0) ∧ okM (8, 172, 143, 0) ∧ okM (6, 290, 100, 0) ∧ okM (6, 293, 127, 2) ∧ okM (6, 298, 136, 0) := ⟨⟨m_133, rfl, hk_133, lw_gd 896 22 rfl rfl⟩, ⟨m_6, rfl, hk_6, lw_gd 896 26 rfl rfl⟩, ⟨m_134, rfl, hk_134, lw_gd 896 27 rfl rfl⟩, ⟨m_135, rfl, hk_135, lw_gd 896 31 rfl rfl⟩, ⟨m_136, rfl, hk_136, lw_gd 896 35 rfl rfl⟩, ⟨m_137, rfl, hk_137, lw_gd 896 39 rfl rfl⟩, ⟨m_138, rfl, hk_138, lw_gd 896 43 rfl rfl⟩, ⟨m_139, rfl, hk_139, lw_gd 896 47 rfl rfl⟩, ⟨m_140, rfl, hk_140, lw_gd 896 51 rfl rfl⟩, ⟨m_135, rfl, hk_135, lw_gd 896 55 rfl rfl⟩, ⟨m_141, rfl, hk_141, lw_gd 896 56 rfl rfl⟩, ⟨m_142, rfl, hk_142, lw_gd 896 60 rfl rfl⟩, ⟨m_143, rfl, hk_143, lw_gd 960 0 rfl rfl⟩, ⟨m_100, rfl, hk_100, lw_gd 960 4 rfl rfl⟩, ⟨m_127, rfl, hk_127, lw_gd 960 5 rfl rfl⟩, ⟨m_136, rfl, hk_136, lw_gd 960 6 rfl rfl⟩⟩
theorem lm_127 : okM (6, 264, 133, 0) := lmg_10.1
theorem lm_28 : okM (1, 22, 6, 2) := lmg_10.2.1
theorem lm_250 : okM (8, 160, 134, 0) := lmg_10.2.2.1
theorem lm_128 : okM (6, 268, 135, 0) := lmg_10.2.2.2.1
theorem lm_29 : okM (1, 28, 136, 0) := lmg_10.2.2.2.2.1
theorem lm_129 : okM (6, 271, 137, 0) := lmg_10.2.2.2.2.2.1
theorem lm_252 : okM (8, 164, 138, 0) := lmg_10.2.2.2.2.2.2.1
theorem lm_130 : okM (6, 274, 139, 0) := lmg_10.2.2.2.2.2.2.2.1
theorem lm_131 : okM (6, 277, 140, 0) := lmg_10.2.2.2.2.2.2.2.2.1
theorem lm_30 : okM (1, 32, 135, 0) := lmg_10.2.2.2.2.2.2.2.2.2.1
theorem lm_132 : okM (6, 280, 141, 0) := lmg_10.2.2.2.2.2.2.2.2.2.2.1
theorem lm_254 : okM (8, 168, 142, 0) := lmg_10.2.2.2.2.2.2.2.2.2.2.2.1
theorem lm_256 : okM (8, 172, 143, 0) := lmg_10.2.2.2.2.2.2.2.2.2.2.2.2.1
theorem lm_133 : okM (6, 290, 100, 0) := lmg_10.2.2.2.2.2.2.2.2.2.2.2.2.2.1
theorem lm_134 : okM (6, 293, 127, 2) := lmg_10.2.2.2.2.2.2.2.2.2.2.2.2.2.2.1
theorem lm_135 : okM (6, 298, 136, 0) := lmg_10.2.2.2.2.2.2.2.2.2.2.2.2.2.2.2
set_option maxRecDepth 100000 in
theorem lmg_11 : okM (6, 305, 144, 0) ∧ okM (8, 12, 145, 1) ∧ okM (7, 62, 146, 0) ∧ okM (7, 65, 147, 0) ∧ okM (8, 17, 148, 0) ∧ okM (7, 98, 149, 2) ∧ okM (8, 21, 150, 0) ∧ okM (8, 26, 151, 0) ∧ okM (7, 150, 152, 0) ∧ okM (7, 117, 153, 0) ∧ okM (7, 142, 154, 0) ∧ okM (7, 177, 155, 0) ∧ okM (7, 171, 156, 0) ∧ okM (7, 121, 157, 0) ∧ okM (7, 125, 158, 0) ∧ okM (7, 174, 159, 0) := ⟨⟨m_144, rfl, hk_144, lw_gd 960 7 rfl rfl⟩, ⟨m_145, rfl, hk_145, lw_gd 960 13 rfl rfl⟩, ⟨m_146, rfl, hk_146, lw_gd 960 17 rfl rfl⟩, ⟨m_147, rfl, hk_147, lw_gd 960 21 rfl rfl⟩, ⟨m_148, rfl, hk_148, lw_gd 1088 4 rfl rfl⟩, ⟨m_149, rfl, hk_149, lw_gd 1088 9 rfl rfl⟩, ⟨m_150, rfl, hk_150, lw_gd 1088 12 rfl rfl⟩, ⟨m_151, rfl, hk_151, lw_gd 1088 16 rfl rfl⟩, ⟨m_152, rfl, hk_152, lw_gd 1088 20 rfl rfl⟩, ⟨m_153, rfl, hk_153, lw_gd 1088 24 rfl rfl⟩, ⟨m_154, rfl, hk_154, lw_gd 1088 32 rfl rfl⟩, ⟨m_155, rfl, hk_155, lw_gd 1088 36 rfl rfl⟩, ⟨m_156, rfl, hk_156, lw_gd 1088 40 rfl rfl⟩, ⟨m_157, rfl, hk_157, lw_gd 1088 44 rfl rfl⟩, ⟨m_158, rfl, hk_158, lw_gd 1088 48 rfl rfl⟩, ⟨m_159, rfl, hk_159, lw_gd 1088 52 rfl rfl⟩⟩
theorem lm_136 : okM (6, 305, 144, 0) := lmg_11.1
theorem lm_179 : okM (8, 12, 145, 1) := lmg_11.2.1
theorem lm_137 : okM (7, 62, 146, 0) := lmg_11.2.2.1
theorem lm_138 : okM (7, 65, 147, 0) := lmg_11.2.2.2.1
theorem lm_181 : okM (8, 17, 148, 0) := lmg_11.2.2.2.2.1
theorem lm_139 : okM (7, 98, 149, 2) := lmg_11.2.2.2.2.2.1
theorem lm_183 : okM (8, 21, 150, 0) := lmg_11.2.2.2.2.2.2.1
theorem lm_185 : okM (8, 26, 151, 0) := lmg_11.2.2.2.2.2.2.2.1
theorem lm_145 : okM (7, 150, 152, 0) := lmg_11.2.2.2.2.2.2.2.2.1
theorem lm_140 : okM (7, 117, 153, 0) := lmg_11.2.2.2.2.2.2.2.2.2.1
theorem lm_143 : okM (7, 142, 154, 0) := lmg_11.2.2.2.2.2.2.2.2.2.2.1
theorem lm_153 : okM (7, 177, 155, 0) := lmg_11.2.2.2.2.2.2.2.2.2.2.2.1
theorem lm_151 : okM (7, 171, 156, 0) := lmg_11.2.2.2.2.2.2.2.2.2.2.2.2.1
theorem lm_141 : okM (7, 121, 157, 0) := lmg_11.2.2.2.2.2.2.2.2.2.2.2.2.2.1
theorem lm_142 : okM (7, 125, 158, 0) := lmg_11.2.2.2.2.2.2.2.2.2.2.2.2.2.2.1
theorem lm_152 : okM (7, 174, 159, 0) := lmg_11.2.2.2.2.2.2.2.2.2.2.2.2.2.2.2
set_option maxRecDepth 100000 in
theorem lmg_12 : okM (7, 157, 160, 0) ∧ okM (7, 146, 161, 0) ∧ okM (7, 153, 162, 0) ∧ okM (7, 160, 163, 0) ∧ okM (7, 163, 164, 2) ∧ okM (7, 167, 165, 0) ∧ okM (8, 30, 166, 0) ∧ okM (8, 34, 167, 0) ∧ okM (8, 39, 168, 0) ∧ okM (7, 227, 169, 0) ∧ okM (8, 43, 170, 0) ∧ okM (7, 232, 171, 0) ∧ okM (7, 235, 172, 0) ∧ okM (7, 201, 173, 0) ∧ okM (8, 47, 174, 0) ∧ okM (7, 238, 175, 0) := ⟨⟨m_160, rfl, hk_160, lw_gd 1088 56 rfl rfl⟩, ⟨m_161, rfl, hk_161, lw_gd 1088 60 rfl rfl⟩, ⟨m_162, rfl, hk_162, lw_gd 1152 0 rfl rfl⟩, ⟨m_163, rfl, hk_163, lw_gd 1152 4 rfl rfl⟩, ⟨m_164, rfl, hk_164, lw_gd 1152 8 rfl rfl⟩, ⟨m_165, rfl, hk_165, lw_gd 1152 11 rfl rfl⟩, ⟨m_166, rfl, hk_166, lw_gd 1152 15 rfl rfl⟩, ⟨m_167, rfl, hk_167, lw_gd 1152 19 rfl rfl⟩, ⟨m_168, rfl, hk_168, lw_gd 1152 24 rfl rfl⟩, ⟨m_169, rfl, hk_169, lw_gd 1152 28 rfl rfl⟩, ⟨m_170, rfl, hk_170, lw_gd 1152 33 rfl rfl⟩, ⟨m_171, rfl, hk_171, lw_gd 1152 37 rfl rfl⟩, ⟨m_172, rfl, hk_172, lw_gd 1152 41 rfl rfl⟩, ⟨m_173, rfl, hk_173, lw_gd 1152 45 rfl rfl⟩, ⟨m_174, rfl, hk_174, lw_gd 1152 49 rfl rfl⟩, ⟨m_175, rfl, hk_175, lw_gd 1152 53 rfl rfl⟩⟩
theorem lm_147 : okM (7, 157, 160, 0) := lmg_12.1
theorem lm_144 : okM (7, 146, 161, 0) := lmg_12.2.1
theorem lm_146 : okM (7, 153, 162, 0) := lmg_12.2.2.1
theorem lm_148 : okM (7, 160, 163, 0) := lmg_12.2.2.2.1
theorem lm_149 : okM (7, 163, 164, 2) := lmg_12.2.2.2.2.1
theorem lm_150 : okM (7, 167, 165, 0) := lmg_12.2.2.2.2.2.1
theorem lm_187 : okM (8, 30, 166, 0) := lmg_12.2.2.2.2.2.2.1
theorem lm_189 : okM (8, 34, 167, 0) := lmg_12.2.2.2.2.2.2.2.1
theorem lm_191 : okM (8, 39, 168, 0) := lmg_12.2.2.2.2.2.2.2.2.1
theorem lm_167 : okM (7, 227, 169, 0) := lmg_12.2.2.2.2.2.2.2.2.2.1
theorem lm_193 : okM (8, 43, 170, 0) := lmg_12.2.2.2.2.2.2.2.2.2.2.1
theorem lm_168 : okM (7, 232, 171, 0) := lmg_12.2.2.2.2.2.2.2.2.2.2.2.1
theorem lm_169 : okM (7, 235, 172, 0) := lmg_12.2.2.2.2.2.2.2.2.2.2.2.2.1
theorem lm_159 : okM (7, 201, 173, 0) := lmg_12.2.2.2.2.2.2.2.2.2.2.2.2.2.1
theorem lm_195 : okM (8, 47, 174, 0) := lmg_12.2.2.2.2.2.2.2.2.2.2.2.2.2.2.1
theorem lm_170 : okM (7, 238, 175, 0) := lmg_12.2.2.2.2.2.2.2.2.2.2.2.2.2.2.2
set_option maxRecDepth 100000 in
theorem lmg_13 : okM (8, 51, 176, 0) ∧ okM (7, 207, 177, 0) ∧ okM (8, 56, 178, 0) ∧ okM (8, 60, 179, 0) ∧ okM (8, 64, 180, 0) ∧ okM (8, 68, 181, 0) ∧ okM (8, 72, 182, 0) ∧ okM (8, 76, 183, 0) ∧ okM (7, 194, 184, 0) ∧ okM (7, 186, 185, 0) ∧ okM (7, 183, 186, 2) ∧ okM (7, 191, 187, 2) ∧ okM (8, 80, 188, 0) ∧ okM (7, 204, 189, 0) ∧ okM (8, 84, 190, 0) ∧ okM (7, 217, 191, 0) := ⟨⟨m_176, rfl, hk_176, lw_gd 1152 57 rfl rfl⟩, ⟨m_177, rfl, hk_177, lw_gd 1152 61 rfl rfl⟩, ⟨m_178, rfl, hk_178, lw_gd 1216 1 rfl rfl⟩, ⟨m_179, rfl, hk_179, lw_gd 1216 5 rfl rfl⟩, ⟨m_180, rfl, hk_180, lw_gd 1216 9 rfl rfl⟩, ⟨m_181, rfl, hk_181, lw_gd 1216 13 rfl rfl⟩, ⟨m_182, rfl, hk_182, lw_gd 1216 18 rfl rfl⟩, ⟨m_183, rfl, hk_183, lw_gd 1216 22 rfl rfl⟩, ⟨m_184, rfl, hk_184, lw_gd 1216 26 rfl rfl⟩, ⟨m_185, rfl, hk_185, lw_gd 1216 30 rfl rfl⟩, ⟨m_186, rfl, hk_186, lw_gd 1216 34 rfl rfl⟩, ⟨m_187, rfl, hk_187, lw_gd 1216 37 rfl rfl⟩, ⟨m_188, rfl, hk_188, lw_gd 1216 40 rfl rfl⟩, ⟨m_189, rfl, hk_189, lw_gd 1216 44 rfl rfl⟩, ⟨m_190, rfl, hk_190, lw_gd 1216 48 rfl rfl⟩, ⟨m_191, rfl, hk_191, lw_gd 1216 52 rfl rfl⟩⟩
theorem lm_197 : okM (8, 51, 176, 0) := lmg_13.1
theorem lm_161 : okM (7, 207, 177, 0) := lmg_13.2.1
theorem lm_199 : okM (8, 56, 178, 0) := lmg_13.2.2.1
theorem lm_201 : okM (8, 60, 179, 0) := lmg_13.2.2.2.1
theorem lm_203 : okM (8, 64, 180, 0) := lmg_13.2.2.2.2.1
theorem lm_205 : okM (8, 68, 181, 0) := lmg_13.2.2.2.2.2.1
theorem lm_207 : okM (8, 72, 182, 0) := lmg_13.2.2.2.2.2.2.1
theorem lm_209 : okM (8, 76, 183, 0) := lmg_13.2.2.2.2.2.2.2.1
theorem lm_157 : okM (7, 194, 184, 0) := lmg_13.2.2.2.2.2.2.2.2.1
theorem lm_155 : okM (7, 186, 185, 0) := lmg_13.2.2.2.2.2.2.2.2.2.1
theorem lm_154 : okM (7, 183, 186, 2) := lmg_13.2.2.2.2.2.2.2.2.2.2.1
theorem lm_156 : okM (7, 191, 187, 2) := lmg_13.2.2.2.2.2.2.2.2.2.2.2.1
theorem lm_211 : okM (8, 80, 188, 0) := lmg_13.2.2.2.2.2.2.2.2.2.2.2.2.1
theorem lm_160 : okM (7, 204, 189, 0) := lmg_13.2.2.2.2.2.2.2.2.2.2.2.2.2.1
theorem lm_213 : okM (8, 84, 190, 0) := lmg_13.2.2.2.2.2.2.2.2.2.2.2.2.2.2.1
theorem lm_164 : okM (7, 217, 191, 0) := lmg_13.2.2.2.2.2.2.2.2.2.2.2.2.2.2.2
set_option maxRecDepth 100000 in
theorem lmg_14 : okM (7, 198, 192, 0) ∧ okM (7, 211, 193, 0) ∧ okM (7, 214, 194, 2) ∧ okM (8, 88, 195, 0) ∧ okM (8, 92, 196, 0) ∧ okM (7, 221, 197, 0) ∧ okM (8, 97, 198, 0) ∧ okM (8, 101, 199, 0) ∧ okM (8, 105, 200, 0) ∧ okM (8, 109, 201, 0) ∧ okM (7, 248, 202, 2) ∧ okM (7, 251, 203, 0) ∧ okM (7, 254, 204, 0) ∧ okM (7, 224, 205, 0) ∧ okM (8, 113, 206, 0) ∧ okM (8, 117, 207, 0) := ⟨⟨m_192, rfl, hk_192, lw_gd 1216 56 rfl rfl⟩, ⟨m_193, rfl, hk_193, lw_gd 1216 60 rfl rfl⟩, ⟨m_194, rfl, hk_194, lw_gd 1280 0 rfl rfl⟩, ⟨m_195, rfl, hk_195, lw_gd 1280 3 rfl rfl⟩, ⟨m_196, rfl, hk_196, lw_gd 1280 7 rfl rfl⟩, ⟨m_197, rfl, hk_197, lw_gd 1280 12 rfl rfl⟩, ⟨m_198, rfl, hk_198, lw_gd 1280 16 rfl rfl⟩, ⟨m_199, rfl, hk_199, lw_gd 1280 20 rfl rfl⟩, ⟨m_200, rfl, hk_200, lw_gd 1280 24 rfl rfl⟩, ⟨m_201, rfl, hk_201, lw_gd 1280 28 rfl rfl⟩, ⟨m_202, rfl, hk_202, lw_gd 1280 34 rfl rfl⟩, ⟨m_203, rfl, hk_203, lw_gd 1280 37 rfl rfl⟩, ⟨m_204, rfl, hk_204, lw_gd 1280 41 rfl rfl⟩, ⟨m_205, rfl, hk_205, lw_gd 1280 45 rfl rfl⟩, ⟨m_206, rfl, hk_206, lw_gd 1280 49 rfl rfl⟩, ⟨m_207, rfl, hk_207, lw_gd 1280 53 rfl rfl⟩⟩
theorem lm_158 : okM (7, 198, 192, 0) := lmg_14.1
theorem lm_162 : okM (7, 211, 193, 0) := lmg_14.2.1
theorem lm_163 : okM (7, 214, 194, 2) := lmg_14.2.2.1
theorem lm_215 : okM (8, 88, 195, 0) := lmg_14.2.2.2.1
theorem lm_217 : okM (8, 92, 196, 0) := lmg_14.2.2.2.2.1
theorem lm_165 : okM (7, 221, 197, 0) := lmg_14.2.2.2.2.2.1
theorem lm_219 : okM (8, 97, 198, 0) := lmg_14.2.2.2.2.2.2.1
theorem lm_221 : okM (8, 101, 199, 0) := lmg_14.2.2.2.2.2.2.2.1
theorem lm_223 : okM (8, 105, 200, 0) := lmg_14.2.2.2.2.2.2.2.2.1
theorem lm_225 : okM (8, 109, 201, 0) := lmg_14.2.2.2.2.2.2.2.2.2.1
theorem lm_171 : okM (7, 248, 202, 2) := lmg_14.2.2.2.2.2.2.2.2.2.2.1
theorem lm_172 : okM (7, 251, 203, 0) := lmg_14.2.2.2.2.2.2.2.2.2.2.2.1
theorem lm_173 : okM (7, 254, 204, 0) := lmg_14.2.2.2.2.2.2.2.2.2.2.2.2.1
theorem lm_166 : okM (7, 224, 205, 0) := lmg_14.2.2.2.2.2.2.2.2.2.2.2.2.2.1
theorem lm_227 : okM (8, 113, 206, 0) := lmg_14.2.2.2.2.2.2.2.2.2.2.2.2.2.2.1
theorem lm_229 : okM (8, 117, 207, 0) := lmg_14.2.2.2.2.2.2.2.2.2.2.2.2.2.2.2
set_option maxRecDepth 100000 in
theorem lmg_15 : okM (8, 122, 208, 0) ∧ okM (8, 126, 209, 0) ∧ okM (8, 131, 210, 0) ∧ okM (7, 263, 211, 2) ∧ okM (8, 135, 212, 0) ∧ okM (8, 139, 213, 0) ∧ okM (8, 143, 214, 0) ∧ okM (8, 147, 215, 0) ∧ okM (8, 151, 216, 0) ∧ okM (7, 268, 217, 0) ∧ okM (8, 155, 218, 0) ∧ okM (8, 159, 219, 0) ∧ okM (7, 274, 220, 2) ∧ okM (8, 163, 221, 0) ∧ okM (8, 167, 222, 0) ∧ okM (7, 280, 174, 0) := ⟨⟨m_208, rfl, hk_208, lw_gd 1280 57 rfl rfl⟩, ⟨m_209, rfl, hk_209, lw_gd 1280 63 rfl rfl⟩, ⟨m_210, rfl, hk_210, lw_gd 1344 3 rfl rfl⟩, ⟨m_211, rfl, hk_211, lw_gd 1344 8 rfl rfl⟩, ⟨m_212, rfl, hk_212, lw_gd 1344 11 rfl rfl⟩, ⟨m_213, rfl, hk_213, lw_gd 1344 15 rfl rfl⟩, ⟨m_214, rfl, hk_214, lw_gd 1344 19 rfl rfl⟩, ⟨m_215, rfl, hk_215, lw_gd 1344 23 rfl rfl⟩, ⟨m_216, rfl, hk_216, lw_gd 1344 28 rfl rfl⟩, ⟨m_217, rfl, hk_217, lw_gd 1344 32 rfl rfl⟩, ⟨m_218, rfl, hk_218, lw_gd 1344 36 rfl rfl⟩, ⟨m_219, rfl, hk_219, lw_gd 1344 40 rfl rfl⟩, ⟨m_220, rfl, hk_220, lw_gd 1344 44 rfl rfl⟩, ⟨m_221, rfl, hk_221, lw_gd 1344 48 rfl rfl⟩, ⟨m_222, rfl, hk_222, lw_gd 1344 52 rfl rfl⟩, ⟨m_174, rfl, hk_174, lw_gd 1344 57 rfl rfl⟩⟩
theorem lm_231 : okM (8, 122, 208, 0) := lmg_15.1
theorem lm_233 : okM (8, 126, 209, 0) := lmg_15.2.1
theorem lm_235 : okM (8, 131, 210, 0) := lmg_15.2.2.1
theorem lm_174 : okM (7, 263, 211, 2) := lmg_15.2.2.2.1
theorem lm_237 : okM (8, 135, 212, 0) := lmg_15.2.2.2.2.1
theorem lm_239 : okM (8, 139, 213, 0) := lmg_15.2.2.2.2.2.1
theorem lm_241 : okM (8, 143, 214, 0) := lmg_15.2.2.2.2.2.2.1
theorem lm_243 : okM (8, 147, 215, 0) := lmg_15.2.2.2.2.2.2.2.1
theorem lm_245 : okM (8, 151, 216, 0) := lmg_15.2.2.2.2.2.2.2.2.1
theorem lm_175 : okM (7, 268, 217, 0) := lmg_15.2.2.2.2.2.2.2.2.2.1
theorem lm_247 : okM (8, 155, 218, 0) := lmg_15.2.2.2.2.2.2.2.2.2.2.1
theorem lm_249 : okM (8, 159, 219, 0) := lmg_15.2.2.2.2.2.2.2.2.2.2.2.1
theorem lm_176 : okM (7, 274, 220, 2) := lmg_15.2.2.2.2.2.2.2.2.2.2.2.2.1
theorem lm_251 : okM (8, 163, 221, 0) := lmg_15.2.2.2.2.2.2.2.2.2.2.2.2.2.1
theorem lm_253 : okM (8, 167, 222, 0) := lmg_15.2.2.2.2.2.2.2.2.2.2.2.2.2.2.1
theorem lm_177 : okM (7, 280, 174, 0) := lmg_15.2.2.2.2.2.2.2.2.2.2.2.2.2.2.2
set_option maxRecDepth 100000 in
theorem lmg_16 : okM (8, 171, 223, 0) ∧ okM (8, 175, 224, 0) := ⟨⟨m_223, rfl, hk_223, lw_gd 1344 58 rfl rfl⟩, ⟨m_224, rfl, hk_224, lw_gd 1344 62 rfl rfl⟩⟩
theorem lm_255 : okM (8, 171, 223, 0) := lmg_16.1
theorem lm_257 : okM (8, 175, 224, 0) := lmg_16.2
def lkM_0 : List (Nat × Nat × Nat × Nat) := [(0, 17, 4, 1), (0, 26, 41, 0), (0, 30, 76, 0), (0, 36, 68, 0), (0, 47, 73, 0), (0, 51, 83, 0), (0, 55, 77, 0), (0, 58, 86, 0), (0, 66, 94, 0), (0, 69, 97, 0), (0, 73, 42, 0), (0, 76, 98, 0), (0, 80, 99, 0), (0, 83, 103, 0), (0, 86, 39, 0), (0, 90, 50, 0)]
theorem lkM_o0 : ∀ q ∈ lkM_0, okM q := List.forall_mem_cons.mpr ⟨lm_0, List.forall_mem_cons.mpr ⟨lm_1, List.forall_mem_cons.mpr ⟨lm_2, List.forall_mem_cons.mpr ⟨lm_3, List.forall_mem_cons.mpr ⟨lm_4, List.forall_mem_cons.mpr ⟨lm_5, List.forall_mem_cons.mpr ⟨lm_6, List.forall_mem_cons.mpr ⟨lm_7, List.forall_mem_cons.mpr ⟨lm_8, List.forall_mem_cons.mpr ⟨lm_9, List.forall_mem_cons.mpr ⟨lm_10, List.forall_mem_cons.mpr ⟨lm_11, List.forall_mem_cons.mpr ⟨lm_12, List.forall_mem_cons.mpr ⟨lm_13, List.forall_mem_cons.mpr ⟨lm_14, List.forall_mem_cons.mpr ⟨lm_15, fun _ h => absurd h List.not_mem_nil⟩⟩⟩⟩⟩⟩⟩⟩⟩⟩⟩⟩⟩⟩⟩⟩
def lkM_1 : List (Nat × Nat × Nat × Nat) := [(0, 97, 108, 0), (0, 101, 109, 0), (0, 112, 28, 0), (0, 118, 32, 0), (0, 122, 78, 0), (0, 125, 88, 2), (0, 128, 114, 2), (0, 132, 115, 0), (0, 138, 122, 0), (0, 142, 95, 0), (0, 151, 123, 0), (0, 161, 127, 2), (1, 22, 6, 2), (1, 28, 136, 0), (1, 32, 135, 0), (2, 28, 17, 2)]
theorem lkM_o1 : ∀ q ∈ lkM_1, okM q := List.forall_mem_cons.mpr ⟨lm_16, List.forall_mem_cons.mpr ⟨lm_17, List.forall_mem_cons.mpr ⟨lm_18, List.forall_mem_cons.mpr ⟨lm_19, List.forall_mem_cons.mpr ⟨lm_20, List.forall_mem_cons.mpr ⟨lm_21, List.forall_mem_cons.mpr ⟨lm_22, List.forall_mem_cons.mpr ⟨lm_23, List.forall_mem_cons.mpr ⟨lm_24, List.forall_mem_cons.mpr ⟨lm_25, List.forall_mem_cons.mpr ⟨lm_26, List.forall_mem_cons.mpr ⟨lm_27, List.forall_mem_cons.mpr ⟨lm_28, List.forall_mem_cons.mpr ⟨lm_29, List.forall_mem_cons.mpr ⟨lm_30, List.forall_mem_cons.mpr ⟨lm_31, fun _ h => absurd h List.not_mem_nil⟩⟩⟩⟩⟩⟩⟩⟩⟩⟩⟩⟩⟩⟩⟩⟩
def lkM_2 : List (Nat × Nat × Nat × Nat) := [(2, 32, 18, 0), (3, 17, 4, 1), (3, 22, 5, 0), (3, 45, 15, 0), (3, 50, 16, 0), (3, 56, 19, 0), (3, 59, 36, 0), (3, 62, 37, 0), (3, 69, 20, 0), (3, 78, 21, 0), (3, 82, 22, 0), (3, 87, 26, 0), (3, 92, 31, 0), (3, 100, 33, 0), (3, 105, 34, 0), (3, 110, 35, 0)]
theorem lkM_o2 : ∀ q ∈ lkM_2, okM q := List.forall_mem_cons.mpr ⟨lm_32, List.forall_mem_cons.mpr ⟨lm_33, List.forall_mem_cons.mpr ⟨lm_34, List.forall_mem_cons.mpr ⟨lm_35, List.forall_mem_cons.mpr ⟨lm_36, List.forall_mem_cons.mpr ⟨lm_37, List.forall_mem_cons.mpr ⟨lm_38, List.forall_mem_cons.mpr ⟨lm_39, List.forall_mem_cons.mpr ⟨lm_40, List.forall_mem_cons.mpr ⟨lm_41, List.forall_mem_cons.mpr ⟨lm_42, List.forall_mem_cons.mpr ⟨lm_43, List.forall_mem_cons.mpr ⟨lm_44, List.forall_mem_cons.mpr ⟨lm_45, List.forall_mem_cons.mpr ⟨lm_46, List.forall_mem_cons.mpr ⟨lm_47, fun _ h => absurd h List.not_mem_nil⟩⟩⟩⟩⟩⟩⟩⟩⟩⟩⟩⟩⟩⟩⟩⟩
def lkM_3 : List (Nat × Nat × Nat × Nat) := [(3, 113, 25, 0), (3, 120, 28, 0), (3, 123, 23, 0), (3, 127, 24, 0), (3, 137, 27, 0), (3, 146, 32, 0), (3, 162, 38, 0), (3, 165, 40, 0), (3, 168, 39, 0), (4, 33, 5, 0), (4, 58, 6, 2), (4, 64, 42, 0), (4, 74, 39, 0), (4, 78, 29, 0), (4, 82, 30, 0), (4, 86, 28, 0)]
theorem lkM_o3 : ∀ q ∈ lkM_3, okM q := List.forall_mem_cons.mpr ⟨lm_48, List.forall_mem_cons.mpr ⟨lm_49, List.forall_mem_cons.mpr ⟨lm_50, List.forall_mem_cons.mpr ⟨lm_51, List.forall_mem_cons.mpr ⟨lm_52, List.forall_mem_cons.mpr ⟨lm_53, List.forall_mem_cons.mpr ⟨lm_54, List.forall_mem_cons.mpr ⟨lm_55, List.forall_mem_cons.mpr ⟨lm_56, List.forall_mem_cons.mpr ⟨lm_57, List.forall_mem_cons.mpr ⟨lm_58, List.forall_mem_cons.mpr ⟨lm_59, List.forall_mem_cons.mpr ⟨lm_60, List.forall_mem_cons.mpr ⟨lm_61, List.forall_mem_cons.mpr ⟨lm_62, List.forall_mem_cons.mpr ⟨lm_63, fun _ h => absurd h List.not_mem_nil⟩⟩⟩⟩⟩⟩⟩⟩⟩⟩⟩⟩⟩⟩⟩⟩
def lkM_4 : List (Nat × Nat × Nat × Nat) := [(4, 89, 59, 0), (4, 92, 62, 2), (4, 97, 60, 0), (4, 100, 78, 0), (4, 103, 100, 0), (4, 110, 95, 0), (5, 36, 59, 0), (5, 40, 60, 0), (5, 46, 61, 0), (5, 53, 64, 2), (5, 57, 62, 2), (5, 65, 63, 2), (5, 70, 58, 0), (5, 74, 69, 0), (5, 77, 70, 0), (5, 83, 68, 0)]
theorem lkM_o4 : ∀ q ∈ lkM_4, okM q := List.forall_mem_cons.mpr ⟨lm_64, List.forall_mem_cons.mpr ⟨lm_65, List.forall_mem_cons.mpr ⟨lm_66, List.forall_mem_cons.mpr ⟨lm_67, List.forall_mem_cons.mpr ⟨lm_68, List.forall_mem_cons.mpr ⟨lm_69, List.forall_mem_cons.mpr ⟨lm_70, List.forall_mem_cons.mpr ⟨lm_71, List.forall_mem_cons.mpr ⟨lm_72, List.forall_mem_cons.mpr ⟨lm_73, List.forall_mem_cons.mpr ⟨lm_74, List.forall_mem_cons.mpr ⟨lm_75, List.forall_mem_cons.mpr ⟨lm_76, List.forall_mem_cons.mpr ⟨lm_77, List.forall_mem_cons.mpr ⟨lm_78, List.forall_mem_cons.mpr ⟨lm_79, fun _ h => absurd h List.not_mem_nil⟩⟩⟩⟩⟩⟩⟩⟩⟩⟩⟩⟩⟩⟩⟩⟩
def lkM_5 : List (Nat × Nat × Nat × Nat) := [(5, 86, 77, 0), (5, 108, 71, 0), (5, 114, 73, 0), (6, 11, 2, 1), (6, 18, 3, 1), (6, 27, 4, 1), (6, 34, 7, 1), (6, 41, 8, 1), (6, 58, 9, 1), (6, 59, 11, 0), (6, 67, 14, 0), (6, 79, 41, 0), (6, 111, 40, 0), (6, 126, 38, 0), (6, 129, 30, 0), (6, 133, 48, 2)]
theorem lkM_o5 : ∀ q ∈ lkM_5, okM q := List.forall_mem_cons.mpr ⟨lm_80, List.forall_mem_cons.mpr ⟨lm_81, List.forall_mem_cons.mpr ⟨lm_82, List.forall_mem_cons.mpr ⟨lm_83, List.forall_mem_cons.mpr ⟨lm_84, List.forall_mem_cons.mpr ⟨lm_85, List.forall_mem_cons.mpr ⟨lm_86, List.forall_mem_cons.mpr ⟨lm_87, List.forall_mem_cons.mpr ⟨lm_88, List.forall_mem_cons.mpr ⟨lm_89, List.forall_mem_cons.mpr ⟨lm_90, List.forall_mem_cons.mpr ⟨lm_91, List.forall_mem_cons.mpr ⟨lm_92, List.forall_mem_cons.mpr ⟨lm_93, List.forall_mem_cons.mpr ⟨lm_94, List.forall_mem_cons.mpr ⟨lm_95, fun _ h => absurd h List.not_mem_nil⟩⟩⟩⟩⟩⟩⟩⟩⟩⟩⟩⟩⟩⟩⟩⟩
def lkM_6 : List (Nat × Nat × Nat × Nat) := [(6, 136, 50, 0), (6, 140, 29, 0), (6, 143, 57, 2), (6, 146, 58, 0), (6, 158, 67, 0), (6, 162, 62, 2), (6, 167, 76, 0), (6, 171, 78, 0), (6, 175, 80, 0), (6, 179, 82, 0), (6, 182, 85, 0), (6, 185, 87, 2), (6, 188, 88, 2), (6, 191, 90, 2), (6, 194, 91, 0), (6, 197, 92, 0)]
theorem lkM_o6 : ∀ q ∈ lkM_6, okM q := List.forall_mem_cons.mpr ⟨lm_96, List.forall_mem_cons.mpr ⟨lm_97, List.forall_mem_cons.mpr ⟨lm_98, List.forall_mem_cons.mpr ⟨lm_99, List.forall_mem_cons.mpr ⟨lm_100, List.forall_mem_cons.mpr ⟨lm_101, List.forall_mem_cons.mpr ⟨lm_102, List.forall_mem_cons.mpr ⟨lm_103, List.forall_mem_cons.mpr ⟨lm_104, List.forall_mem_cons.mpr ⟨lm_105, List.forall_mem_cons.mpr ⟨lm_106, List.forall_mem_cons.mpr ⟨lm_107, List.forall_mem_cons.mpr ⟨lm_108, List.forall_mem_cons.mpr ⟨lm_109, List.forall_mem_cons.mpr ⟨lm_110, List.forall_mem_cons.mpr ⟨lm_111, fun _ h => absurd h List.not_mem_nil⟩⟩⟩⟩⟩⟩⟩⟩⟩⟩⟩⟩⟩⟩⟩⟩
def lkM_7 : List (Nat × Nat × Nat × Nat) := [(6, 201, 94, 0), (6, 204, 95, 0), (6, 208, 102, 0), (6, 211, 105, 0), (6, 214, 107, 0), (6, 218, 96, 2), (6, 222, 111, 0), (6, 228, 113, 0), (6, 232, 116, 0), (6, 236, 117, 2), (6, 249, 121, 0), (6, 252, 124, 0), (6, 255, 126, 0), (6, 258, 131, 2), (6, 261, 132, 2), (6, 264, 133, 0)]
theorem lkM_o7 : ∀ q ∈ lkM_7, okM q := List.forall_mem_cons.mpr ⟨lm_112, List.forall_mem_cons.mpr ⟨lm_113, List.forall_mem_cons.mpr ⟨lm_114, List.forall_mem_cons.mpr ⟨lm_115, List.forall_mem_cons.mpr ⟨lm_116, List.forall_mem_cons.mpr ⟨lm_117, List.forall_mem_cons.mpr ⟨lm_118, List.forall_mem_cons.mpr ⟨lm_119, List.forall_mem_cons.mpr ⟨lm_120, List.forall_mem_cons.mpr ⟨lm_121, List.forall_mem_cons.mpr ⟨lm_122, List.forall_mem_cons.mpr ⟨lm_123, List.forall_mem_cons.mpr ⟨lm_124, List.forall_mem_cons.mpr ⟨lm_125, List.forall_mem_cons.mpr ⟨lm_126, List.forall_mem_cons.mpr ⟨lm_127, fun _ h => absurd h List.not_mem_nil⟩⟩⟩⟩⟩⟩⟩⟩⟩⟩⟩⟩⟩⟩⟩⟩
def lkM_8 : List (Nat × Nat × Nat × Nat) := [(6, 268, 135, 0), (6, 271, 137, 0), (6, 274, 139, 0), (6, 277, 140, 0), (6, 280, 141, 0), (6, 290, 100, 0), (6, 293, 127, 2), (6, 298, 136, 0), (6, 305, 144, 0), (7, 62, 146, 0), (7, 65, 147, 0), (7, 98, 149, 2), (7, 117, 153, 0), (7, 121, 157, 0), (7, 125, 158, 0), (7, 142, 154, 0)]
theorem lkM_o8 : ∀ q ∈ lkM_8, okM q := List.forall_mem_cons.mpr ⟨lm_128, List.forall_mem_cons.mpr ⟨lm_129, List.forall_mem_cons.mpr ⟨lm_130, List.forall_mem_cons.mpr ⟨lm_131, List.forall_mem_cons.mpr ⟨lm_132, List.forall_mem_cons.mpr ⟨lm_133, List.forall_mem_cons.mpr ⟨lm_134, List.forall_mem_cons.mpr ⟨lm_135, List.forall_mem_cons.mpr ⟨lm_136, List.forall_mem_cons.mpr ⟨lm_137, List.forall_mem_cons.mpr ⟨lm_138, List.forall_mem_cons.mpr ⟨lm_139, List.forall_mem_cons.mpr ⟨lm_140, List.forall_mem_cons.mpr ⟨lm_141, List.forall_mem_cons.mpr ⟨lm_142, List.forall_mem_cons.mpr ⟨lm_143, fun _ h => absurd h List.not_mem_nil⟩⟩⟩⟩⟩⟩⟩⟩⟩⟩⟩⟩⟩⟩⟩⟩
def lkM_9 : List (Nat × Nat × Nat × Nat) := [(7, 146, 161, 0), (7, 150, 152, 0), (7, 153, 162, 0), (7, 157, 160, 0), (7, 160, 163, 0), (7, 163, 164, 2), (7, 167, 165, 0), (7, 171, 156, 0), (7, 174, 159, 0), (7, 177, 155, 0), (7, 183, 186, 2), (7, 186, 185, 0), (7, 191, 187, 2), (7, 194, 184, 0), (7, 198, 192, 0), (7, 201, 173, 0)]
theorem lkM_o9 : ∀ q ∈ lkM_9, okM q := List.forall_mem_cons.mpr ⟨lm_144, List.forall_mem_cons.mpr ⟨lm_145, List.forall_mem_cons.mpr ⟨lm_146, List.forall_mem_cons.mpr ⟨lm_147, List.forall_mem_cons.mpr ⟨lm_148, List.forall_mem_cons.mpr ⟨lm_149, List.forall_mem_cons.mpr ⟨lm_150, List.forall_mem_cons.mpr ⟨lm_151, List.forall_mem_cons.mpr ⟨lm_152, List.forall_mem_cons.mpr ⟨lm_153, List.forall_mem_cons.mpr ⟨lm_154, List.forall_mem_cons.mpr ⟨lm_155, List.forall_mem_cons.mpr ⟨lm_156, List.forall_mem_cons.mpr ⟨lm_157, List.forall_mem_cons.mpr ⟨lm_158, List.forall_mem_cons.mpr ⟨lm_159, fun _ h => absurd h List.not_mem_nil⟩⟩⟩⟩⟩⟩⟩⟩⟩⟩⟩⟩⟩⟩⟩⟩
def lkM_10 : List (Nat × Nat × Nat × Nat) := [(7, 204, 189, 0), (7, 207, 177, 0), (7, 211, 193, 0), (7, 214, 194, 2), (7, 217, 191, 0), (7, 221, 197, 0), (7, 224, 205, 0), (7, 227, 169, 0), (7, 232, 171, 0), (7, 235, 172, 0), (7, 238, 175, 0), (7, 248, 202, 2), (7, 251, 203, 0), (7, 254, 204, 0), (7, 263, 211, 2), (7, 268, 217, 0)]
theorem lkM_o10 : ∀ q ∈ lkM_10, okM q := List.forall_mem_cons.mpr ⟨lm_160, List.forall_mem_cons.mpr ⟨lm_161, List.forall_mem_cons.mpr ⟨lm_162, List.forall_mem_cons.mpr ⟨lm_163, List.forall_mem_cons.mpr ⟨lm_164, List.forall_mem_cons.mpr ⟨lm_165, List.forall_mem_cons.mpr ⟨lm_166, List.forall_mem_cons.mpr ⟨lm_167, List.forall_mem_cons.mpr ⟨lm_168, List.forall_mem_cons.mpr ⟨lm_169, List.forall_mem_cons.mpr ⟨lm_170, List.forall_mem_cons.mpr ⟨lm_171, List.forall_mem_cons.mpr ⟨lm_172, List.forall_mem_cons.mpr ⟨lm_173, List.forall_mem_cons.mpr ⟨lm_174, List.forall_mem_cons.mpr ⟨lm_175, fun _ h => absurd h List.not_mem_nil⟩⟩⟩⟩⟩⟩⟩⟩⟩⟩⟩⟩⟩⟩⟩⟩
def lkM_11 : List (Nat × Nat × Nat × Nat) := [(7, 274, 220, 2), (7, 280, 174, 0), (8, 9, 1, 1), (8, 12, 145, 1), (8, 13, 10, 0), (8, 17, 148, 0), (8, 18, 12, 0), (8, 21, 150, 0), (8, 22, 13, 0), (8, 26, 151, 0), (8, 27, 43, 0), (8, 30, 166, 0), (8, 31, 44, 0), (8, 34, 167, 0), (8, 35, 45, 0), (8, 39, 168, 0)]
theorem lkM_o11 : ∀ q ∈ lkM_11, okM q := List.forall_mem_cons.mpr ⟨lm_176, List.forall_mem_cons.mpr ⟨lm_177, List.forall_mem_cons.mpr ⟨lm_178, List.forall_mem_cons.mpr ⟨lm_179, List.forall_mem_cons.mpr ⟨lm_180, List.forall_mem_cons.mpr ⟨lm_181, List.forall_mem_cons.mpr ⟨lm_182, List.forall_mem_cons.mpr ⟨lm_183, List.forall_mem_cons.mpr ⟨lm_184, List.forall_mem_cons.mpr ⟨lm_185, List.forall_mem_cons.mpr ⟨lm_186, List.forall_mem_cons.mpr ⟨lm_187, List.forall_mem_cons.mpr ⟨lm_188, List.forall_mem_cons.mpr ⟨lm_189, List.forall_mem_cons.mpr ⟨lm_190, List.forall_mem_cons.mpr ⟨lm_191, fun _ h => absurd h List.not_mem_nil⟩⟩⟩⟩⟩⟩⟩⟩⟩⟩⟩⟩⟩⟩⟩⟩
def lkM_12 : List (Nat × Nat × Nat × Nat) := [(8, 40, 46, 0), (8, 43, 170, 0), (8, 44, 47, 0), (8, 47, 174, 0), (8, 48, 49, 0), (8, 51, 176, 0), (8, 52, 51, 0), (8, 56, 178, 0), (8, 57, 52, 0), (8, 60, 179, 0), (8, 61, 53, 0), (8, 64, 180, 0), (8, 65, 54, 0), (8, 68, 181, 0), (8, 69, 55, 0), (8, 72, 182, 0)]
theorem lkM_o12 : ∀ q ∈ lkM_12, okM q := List.forall_mem_cons.mpr ⟨lm_192, List.forall_mem_cons.mpr ⟨lm_193, List.forall_mem_cons.mpr ⟨lm_194, List.forall_mem_cons.mpr ⟨lm_195, List.forall_mem_cons.mpr ⟨lm_196, List.forall_mem_cons.mpr ⟨lm_197, List.forall_mem_cons.mpr ⟨lm_198, List.forall_mem_cons.mpr ⟨lm_199, List.forall_mem_cons.mpr ⟨lm_200, List.forall_mem_cons.mpr ⟨lm_201, List.forall_mem_cons.mpr ⟨lm_202, List.forall_mem_cons.mpr ⟨lm_203, List.forall_mem_cons.mpr ⟨lm_204, List.forall_mem_cons.mpr ⟨lm_205, List.forall_mem_cons.mpr ⟨lm_206, List.forall_mem_cons.mpr ⟨lm_207, fun _ h => absurd h List.not_mem_nil⟩⟩⟩⟩⟩⟩⟩⟩⟩⟩⟩⟩⟩⟩⟩⟩
def lkM_13 : List (Nat × Nat × Nat × Nat) := [(8, 73, 56, 0), (8, 76, 183, 0), (8, 77, 65, 0), (8, 80, 188, 0), (8, 81, 66, 0), (8, 84, 190, 0), (8, 85, 74, 0), (8, 88, 195, 0), (8, 89, 75, 0), (8, 92, 196, 0), (8, 93, 79, 0), (8, 97, 198, 0), (8, 98, 81, 0), (8, 101, 199, 0), (8, 102, 84, 0), (8, 105, 200, 0)]
theorem lkM_o13 : ∀ q ∈ lkM_13, okM q := List.forall_mem_cons.mpr ⟨lm_208, List.forall_mem_cons.mpr ⟨lm_209, List.forall_mem_cons.mpr ⟨lm_210, List.forall_mem_cons.mpr ⟨lm_211, List.forall_mem_cons.mpr ⟨lm_212, List.forall_mem_cons.mpr ⟨lm_213, List.forall_mem_cons.mpr ⟨lm_214, List.forall_mem_cons.mpr ⟨lm_215, List.forall_mem_cons.mpr ⟨lm_216, List.forall_mem_cons.mpr ⟨lm_217, List.forall_mem_cons.mpr ⟨lm_218, List.forall_mem_cons.mpr ⟨lm_219, List.forall_mem_cons.mpr ⟨lm_220, List.forall_mem_cons.mpr ⟨lm_221, List.forall_mem_cons.mpr ⟨lm_222, List.forall_mem_cons.mpr ⟨lm_223, fun _ h => absurd h List.not_mem_nil⟩⟩⟩⟩⟩⟩⟩⟩⟩⟩⟩⟩⟩⟩⟩⟩
def lkM_14 : List (Nat × Nat × Nat × Nat) := [(8, 106, 89, 0), (8, 109, 201, 0), (8, 110, 101, 0), (8, 113, 206, 0), (8, 114, 104, 0), (8, 117, 207, 0), (8, 118, 106, 0), (8, 122, 208, 0), (8, 123, 110, 0), (8, 126, 209, 0), (8, 127, 112, 0), (8, 131, 210, 0), (8, 132, 118, 0), (8, 135, 212, 0), (8, 136, 119, 0), (8, 139, 213, 0)]
theorem lkM_o14 : ∀ q ∈ lkM_14, okM q := List.forall_mem_cons.mpr ⟨lm_224, List.forall_mem_cons.mpr ⟨lm_225, List.forall_mem_cons.mpr ⟨lm_226, List.forall_mem_cons.mpr ⟨lm_227, List.forall_mem_cons.mpr ⟨lm_228, List.forall_mem_cons.mpr ⟨lm_229, List.forall_mem_cons.mpr ⟨lm_230, List.forall_mem_cons.mpr ⟨lm_231, List.forall_mem_cons.mpr ⟨lm_232, List.forall_mem_cons.mpr ⟨lm_233, List.forall_mem_cons.mpr ⟨lm_234, List.forall_mem_cons.mpr ⟨lm_235, List.forall_mem_cons.mpr ⟨lm_236, List.forall_mem_cons.mpr ⟨lm_237, List.forall_mem_cons.mpr ⟨lm_238, List.forall_mem_cons.mpr ⟨lm_239, fun _ h => absurd h List.not_mem_nil⟩⟩⟩⟩⟩⟩⟩⟩⟩⟩⟩⟩⟩⟩⟩⟩
def lkM_15 : List (Nat × Nat × Nat × Nat) := [(8, 140, 120, 0), (8, 143, 214, 0), (8, 144, 125, 0), (8, 147, 215, 0), (8, 148, 128, 0), (8, 151, 216, 0), (8, 152, 129, 0), (8, 155, 218, 0), (8, 156, 130, 0), (8, 159, 219, 0), (8, 160, 134, 0), (8, 163, 221, 0), (8, 164, 138, 0), (8, 167, 222, 0), (8, 168, 142, 0), (8, 171, 223, 0)]
theorem lkM_o15 : ∀ q ∈ lkM_15, okM q := List.forall_mem_cons.mpr ⟨lm_240, List.forall_mem_cons.mpr ⟨lm_241, List.forall_mem_cons.mpr ⟨lm_242, List.forall_mem_cons.mpr ⟨lm_243, List.forall_mem_cons.mpr ⟨lm_244, List.forall_mem_cons.mpr ⟨lm_245, List.forall_mem_cons.mpr ⟨lm_246, List.forall_mem_cons.mpr ⟨lm_247, List.forall_mem_cons.mpr ⟨lm_248, List.forall_mem_cons.mpr ⟨lm_249, List.forall_mem_cons.mpr ⟨lm_250, List.forall_mem_cons.mpr ⟨lm_251, List.forall_mem_cons.mpr ⟨lm_252, List.forall_mem_cons.mpr ⟨lm_253, List.forall_mem_cons.mpr ⟨lm_254, List.forall_mem_cons.mpr ⟨lm_255, fun _ h => absurd h List.not_mem_nil⟩⟩⟩⟩⟩⟩⟩⟩⟩⟩⟩⟩⟩⟩⟩⟩
def lkM_16 : List (Nat × Nat × Nat × Nat) := [(8, 172, 143, 0), (8, 175, 224, 0)]
theorem lkM_o16 : ∀ q ∈ lkM_16, okM q := List.forall_mem_cons.mpr ⟨lm_256, List.forall_mem_cons.mpr ⟨lm_257, fun _ h => absurd h List.not_mem_nil⟩⟩
def lkM : List (Nat × Nat × Nat × Nat) := lkM_0 ++ (lkM_1 ++ (lkM_2 ++ (lkM_3 ++ (lkM_4 ++ (lkM_5 ++ (lkM_6 ++ (lkM_7 ++ (lkM_8 ++ (lkM_9 ++ (lkM_10 ++ (lkM_11 ++ (lkM_12 ++ (lkM_13 ++ (lkM_14 ++ (lkM_15 ++ (lkM_16))))))))))))))))
theorem lkM_ok : ∀ q ∈ lkM, okM q := List.forall_mem_append.mpr ⟨lkM_o0, List.forall_mem_append.mpr ⟨lkM_o1, List.forall_mem_append.mpr ⟨lkM_o2, List.forall_mem_append.mpr ⟨lkM_o3, List.forall_mem_append.mpr ⟨lkM_o4, List.forall_mem_append.mpr ⟨lkM_o5, List.forall_mem_append.mpr ⟨lkM_o6, List.forall_mem_append.mpr ⟨lkM_o7, List.forall_mem_append.mpr ⟨lkM_o8, List.forall_mem_append.mpr ⟨lkM_o9, List.forall_mem_append.mpr ⟨lkM_o10, List.forall_mem_append.mpr ⟨lkM_o11, List.forall_mem_append.mpr ⟨lkM_o12, List.forall_mem_append.mpr ⟨lkM_o13, List.forall_mem_append.mpr ⟨lkM_o14, List.forall_mem_append.mpr ⟨lkM_o15, lkM_o16⟩⟩⟩⟩⟩⟩⟩⟩⟩⟩⟩⟩⟩⟩⟩⟩
def okN (q : Nat × Nat × Nat) : Prop := ∃ m2, pm_m q.2.2 = some m2 ∧ pm_hk 2 m2 ∧ (kN q.1, q.2.1, pm_y m2) ∈ pm_nest
theorem ln_0 : okN (0, 62, 93) := ⟨m_93, rfl, hk_93, by decide +kernel⟩
theorem ln_1 : okN (0, 108, 96) := ⟨m_96, rfl, hk_96, by decide +kernel⟩
theorem ln_2 : okN (0, 135, 72) := ⟨m_72, rfl, hk_72, by decide +kernel⟩
theorem ln_3 : okN (4, 106, 96) := ⟨m_96, rfl, hk_96, by decide +kernel⟩
theorem ln_4 : okN (5, 111, 72) := ⟨m_72, rfl, hk_72, by decide +kernel⟩
def lkN_0 : List (Nat × Nat × Nat) := [(0, 62, 93), (0, 108, 96), (0, 135, 72), (4, 106, 96), (5, 111, 72)]
theorem lkN_o0 : ∀ q ∈ lkN_0, okN q := List.forall_mem_cons.mpr ⟨ln_0, List.forall_mem_cons.mpr ⟨ln_1, List.forall_mem_cons.mpr ⟨ln_2, List.forall_mem_cons.mpr ⟨ln_3, List.forall_mem_cons.mpr ⟨ln_4, fun _ h => absurd h List.not_mem_nil⟩⟩⟩⟩⟩
def lkN : List (Nat × Nat × Nat) := lkN_0
theorem lkN_ok : ∀ q ∈ lkN, okN q := lkN_o0
def okC (q : Nat × Nat × Int) : Prop := Cond.constant (kN q.1) q.2.1 (Int32.ofInt q.2.2) ∈ lw_gt
set_option maxRecDepth 100000 in
theorem lc_0 : okC (0, 157, 1103515245) := lw_gi 893 (by decide +kernel) (by decide +kernel)
set_option maxRecDepth 100000 in
theorem lc_1 : okC (7, 247, 1000000) := lw_gi 1313 (by decide +kernel) (by decide +kernel)
set_option maxRecDepth 100000 in
theorem lc_2 : okC (7, 267, 1103515245) := lw_gi 1371 (by decide +kernel) (by decide +kernel)
set_option maxRecDepth 100000 in
theorem lc_3 : okC (11, 265, 1431655765) := lw_gi 897 (by decide +kernel) (by decide +kernel)
set_option maxRecDepth 100000 in
theorem lc_4 : okC (11, 266, 858993459) := lw_gi 898 (by decide +kernel) (by decide +kernel)
set_option maxRecDepth 100000 in
theorem lc_5 : okC (11, 267, 252645135) := lw_gi 899 (by decide +kernel) (by decide +kernel)
def lkC_0 : List (Nat × Nat × Int) := [(0, 157, 1103515245), (7, 247, 1000000), (7, 267, 1103515245), (11, 265, 1431655765), (11, 266, 858993459), (11, 267, 252645135)]
theorem lkC_o0 : ∀ q ∈ lkC_0, okC q := List.forall_mem_cons.mpr ⟨lc_0, List.forall_mem_cons.mpr ⟨lc_1, List.forall_mem_cons.mpr ⟨lc_2, List.forall_mem_cons.mpr ⟨lc_3, List.forall_mem_cons.mpr ⟨lc_4, List.forall_mem_cons.mpr ⟨lc_5, fun _ h => absurd h List.not_mem_nil⟩⟩⟩⟩⟩⟩
def lkC : List (Nat × Nat × Int) := lkC_0
theorem lkC_ok : ∀ q ∈ lkC, okC q := lkC_o0
def okJ (q : Nat × Nat × Int) : Prop := Cond.constantLong (kN q.1) q.2.1 (Int64.ofInt q.2.2) ∈ lw_gt
set_option maxRecDepth 100000 in
theorem lj_0 : okJ (4, 114, 10) := lw_gi 851 (by decide +kernel) (by decide +kernel)
set_option maxRecDepth 100000 in
theorem lj_1 : okJ (4, 116, 128) := lw_gi 719 (by decide +kernel) (by decide +kernel)
set_option maxRecDepth 100000 in
theorem lj_2 : okJ (6, 226, (-1)) := lw_gi 834 (by decide +kernel) (by decide +kernel)
set_option maxRecDepth 100000 in
theorem lj_3 : okJ (7, 96, 127) := lw_gi 1096 (by decide +kernel) (by decide +kernel)
set_option maxRecDepth 100000 in
theorem lj_4 : okJ (7, 131, 97) := lw_gi 1116 (by decide +kernel) (by decide +kernel)
set_option maxRecDepth 100000 in
theorem lj_5 : okJ (7, 133, 122) := lw_gi 1117 (by decide +kernel) (by decide +kernel)
set_option maxRecDepth 100000 in
theorem lj_6 : okJ (7, 135, 48) := lw_gi 1118 (by decide +kernel) (by decide +kernel)
set_option maxRecDepth 100000 in
theorem lj_7 : okJ (7, 137, 57) := lw_gi 1119 (by decide +kernel) (by decide +kernel)
set_option maxRecDepth 100000 in
theorem lj_8 : okJ (7, 189, 4) := lw_gi 1175 (by decide +kernel) (by decide +kernel)
set_option maxRecDepth 100000 in
theorem lj_9 : okJ (7, 230, 3) := lw_gi 1184 (by decide +kernel) (by decide +kernel)
set_option maxRecDepth 100000 in
theorem lj_10 : okJ (7, 241, 9) := lw_gi 1233 (by decide +kernel) (by decide +kernel)
set_option maxRecDepth 100000 in
theorem lj_11 : okJ (7, 243, 60) := lw_gi 1291 (by decide +kernel) (by decide +kernel)
set_option maxRecDepth 100000 in
theorem lj_12 : okJ (7, 245, 12) := lw_gi 1312 (by decide +kernel) (by decide +kernel)
set_option maxRecDepth 100000 in
theorem lj_13 : okJ (7, 257, 10) := lw_gi 1341 (by decide +kernel) (by decide +kernel)
set_option maxRecDepth 100000 in
theorem lj_14 : okJ (7, 259, 13) := lw_gi 1342 (by decide +kernel) (by decide +kernel)
set_option maxRecDepth 100000 in
theorem lj_15 : okJ (7, 261, (-1)) := lw_gi 1351 (by decide +kernel) (by decide +kernel)
set_option maxRecDepth 100000 in
theorem lj_16 : okJ (7, 272, 2) := lw_gi 1391 (by decide +kernel) (by decide +kernel)
set_option maxRecDepth 100000 in
theorem lj_17 : okJ (7, 278, 20) := lw_gi 1400 (by decide +kernel) (by decide +kernel)
def lkJ_0 : List (Nat × Nat × Int) := [(4, 114, 10), (4, 116, 128), (6, 226, (-1)), (7, 96, 127), (7, 131, 97), (7, 133, 122), (7, 135, 48), (7, 137, 57), (7, 189, 4), (7, 230, 3), (7, 241, 9), (7, 243, 60), (7, 245, 12), (7, 257, 10), (7, 259, 13), (7, 261, (-1))]
theorem lkJ_o0 : ∀ q ∈ lkJ_0, okJ q := List.forall_mem_cons.mpr ⟨lj_0, List.forall_mem_cons.mpr ⟨lj_1, List.forall_mem_cons.mpr ⟨lj_2, List.forall_mem_cons.mpr ⟨lj_3, List.forall_mem_cons.mpr ⟨lj_4, List.forall_mem_cons.mpr ⟨lj_5, List.forall_mem_cons.mpr ⟨lj_6, List.forall_mem_cons.mpr ⟨lj_7, List.forall_mem_cons.mpr ⟨lj_8, List.forall_mem_cons.mpr ⟨lj_9, List.forall_mem_cons.mpr ⟨lj_10, List.forall_mem_cons.mpr ⟨lj_11, List.forall_mem_cons.mpr ⟨lj_12, List.forall_mem_cons.mpr ⟨lj_13, List.forall_mem_cons.mpr ⟨lj_14, List.forall_mem_cons.mpr ⟨lj_15, fun _ h => absurd h List.not_mem_nil⟩⟩⟩⟩⟩⟩⟩⟩⟩⟩⟩⟩⟩⟩⟩⟩
def lkJ_1 : List (Nat × Nat × Int) := [(7, 272, 2), (7, 278, 20)]
theorem lkJ_o1 : ∀ q ∈ lkJ_1, okJ q := List.forall_mem_cons.mpr ⟨lj_16, List.forall_mem_cons.mpr ⟨lj_17, fun _ h => absurd h List.not_mem_nil⟩⟩
def lkJ : List (Nat × Nat × Int) := lkJ_0 ++ (lkJ_1)
theorem lkJ_ok : ∀ q ∈ lkJ, okJ q := List.forall_mem_append.mpr ⟨lkJ_o0, lkJ_o1⟩
def okW (q : Nat × Nat × Nat) : Prop := q.2.2 < 8 ∧ Cond.classLink (kN q.1) q.2.1 (kN q.2.2) ∈ lw_gt ∧ Cond.instantiable (kN q.2.2) (kM q.2.2) ∈ lw_gt ∧ Cond.initialized (kN q.2.2) ∈ lw_gt
set_option maxRecDepth 100000 in
theorem lw_w0 : okW (0, 15, 4) := ⟨by decide, lw_gi 286 (by decide +kernel) (by decide +kernel), lw_gi 121 (by decide +kernel) (by decide +kernel), lw_gi 62 (by decide +kernel) (by decide +kernel)⟩
set_option maxRecDepth 100000 in
theorem lw_w1 : okW (3, 15, 4) := ⟨by decide, lw_gi 120 (by decide +kernel) (by decide +kernel), lw_gi 121 (by decide +kernel) (by decide +kernel), lw_gi 62 (by decide +kernel) (by decide +kernel)⟩
set_option maxRecDepth 100000 in
theorem lw_w2 : okW (6, 9, 2) := ⟨by decide, lw_gi 83 (by decide +kernel) (by decide +kernel), lw_gi 84 (by decide +kernel) (by decide +kernel), lw_gi 60 (by decide +kernel) (by decide +kernel)⟩
set_option maxRecDepth 100000 in
theorem lw_w3 : okW (6, 16, 3) := ⟨by decide, lw_gi 114 (by decide +kernel) (by decide +kernel), lw_gi 115 (by decide +kernel) (by decide +kernel), lw_gi 61 (by decide +kernel) (by decide +kernel)⟩
set_option maxRecDepth 100000 in
theorem lw_w4 : okW (6, 25, 4) := ⟨by decide, lw_gi 245 (by decide +kernel) (by decide +kernel), lw_gi 121 (by decide +kernel) (by decide +kernel), lw_gi 62 (by decide +kernel) (by decide +kernel)⟩
set_option maxRecDepth 100000 in
theorem lw_w5 : okW (6, 32, 5) := ⟨by decide, lw_gi 247 (by decide +kernel) (by decide +kernel), lw_gi 248 (by decide +kernel) (by decide +kernel), lw_gi 64 (by decide +kernel) (by decide +kernel)⟩
set_option maxRecDepth 100000 in
theorem lw_w6 : okW (6, 39, 0) := ⟨by decide, lw_gi 280 (by decide +kernel) (by decide +kernel), lw_gi 281 (by decide +kernel) (by decide +kernel), lw_gi 65 (by decide +kernel) (by decide +kernel)⟩
set_option maxRecDepth 100000 in
theorem lw_w7 : okW (6, 52, 1) := ⟨by decide, lw_gi 300 (by decide +kernel) (by decide +kernel), lw_gi 302 (by decide +kernel) (by decide +kernel), lw_gi 66 (by decide +kernel) (by decide +kernel)⟩
set_option maxRecDepth 100000 in
theorem lw_w8 : okW (8, 7, 6) := ⟨by decide, lw_gi 75 (by decide +kernel) (by decide +kernel), lw_gi 76 (by decide +kernel) (by decide +kernel), lw_gi 59 (by decide +kernel) (by decide +kernel)⟩
set_option maxRecDepth 100000 in
theorem lw_w9 : okW (8, 10, 7) := ⟨by decide, lw_gi 971 (by decide +kernel) (by decide +kernel), lw_gi 972 (by decide +kernel) (by decide +kernel), lw_gi 67 (by decide +kernel) (by decide +kernel)⟩
def lkW_0 : List (Nat × Nat × Nat) := [(0, 15, 4), (3, 15, 4), (6, 9, 2), (6, 16, 3), (6, 25, 4), (6, 32, 5), (6, 39, 0), (6, 52, 1), (8, 7, 6), (8, 10, 7)]
theorem lkW_o0 : ∀ q ∈ lkW_0, okW q := List.forall_mem_cons.mpr ⟨lw_w0, List.forall_mem_cons.mpr ⟨lw_w1, List.forall_mem_cons.mpr ⟨lw_w2, List.forall_mem_cons.mpr ⟨lw_w3, List.forall_mem_cons.mpr ⟨lw_w4, List.forall_mem_cons.mpr ⟨lw_w5, List.forall_mem_cons.mpr ⟨lw_w6, List.forall_mem_cons.mpr ⟨lw_w7, List.forall_mem_cons.mpr ⟨lw_w8, List.forall_mem_cons.mpr ⟨lw_w9, fun _ h => absurd h List.not_mem_nil⟩⟩⟩⟩⟩⟩⟩⟩⟩⟩
def lkW : List (Nat × Nat × Nat) := lkW_0
theorem lkW_ok : ∀ q ∈ lkW, okW q := lkW_o0
def okA (q : Nat × Nat × Nat) : Prop := (q.2.2 = 4 ∨ q.2.2 = 5) ∧ Cond.classLink (kN q.1) q.2.1 (kN (pm_comp q.2.2)) ∈ lw_gt
set_option maxRecDepth 100000 in
theorem la_0 : okA (6, 25, 4) := ⟨by decide, lw_gi 245 (by decide +kernel) (by decide +kernel)⟩
set_option maxRecDepth 100000 in
theorem la_1 : okA (6, 52, 5) := ⟨by decide, lw_gi 300 (by decide +kernel) (by decide +kernel)⟩
def lkA_0 : List (Nat × Nat × Nat) := [(6, 25, 4), (6, 52, 5)]
theorem lkA_o0 : ∀ q ∈ lkA_0, okA q := List.forall_mem_cons.mpr ⟨la_0, List.forall_mem_cons.mpr ⟨la_1, fun _ h => absurd h List.not_mem_nil⟩⟩
def lkA : List (Nat × Nat × Nat) := lkA_0
theorem lkA_ok : ∀ q ∈ lkA, okA q := lkA_o0
def okO (q : Nat × Nat) : Prop := Cond.methodLink (kN q.1) q.2 objectInit ∈ lw_gt
set_option maxRecDepth 100000 in
theorem lkoq_0 : okO (0, 3) := lw_gi 285 (by decide +kernel) (by decide +kernel)
set_option maxRecDepth 100000 in
theorem lkoq_1 : okO (1, 3) := lw_gi 306 (by decide +kernel) (by decide +kernel)
set_option maxRecDepth 100000 in
theorem lkoq_2 : okO (2, 3) := lw_gi 88 (by decide +kernel) (by decide +kernel)
set_option maxRecDepth 100000 in
theorem lkoq_3 : okO (3, 3) := lw_gi 119 (by decide +kernel) (by decide +kernel)
set_option maxRecDepth 100000 in
theorem lkoq_4 : okO (4, 3) := lw_gi 125 (by decide +kernel) (by decide +kernel)
set_option maxRecDepth 100000 in
theorem lkoq_5 : okO (5, 3) := lw_gi 252 (by decide +kernel) (by decide +kernel)
set_option maxRecDepth 100000 in
theorem lkoq_6 : okO (6, 3) := lw_gi 80 (by decide +kernel) (by decide +kernel)
set_option maxRecDepth 100000 in
theorem lkoq_7 : okO (7, 1) := lw_gi 976 (by decide +kernel) (by decide +kernel)
def lkO_0 : List (Nat × Nat) := [(0, 3), (1, 3), (2, 3), (3, 3), (4, 3), (5, 3), (6, 3), (7, 1)]
theorem lkO_o0 : ∀ q ∈ lkO_0, okO q := List.forall_mem_cons.mpr ⟨lkoq_0, List.forall_mem_cons.mpr ⟨lkoq_1, List.forall_mem_cons.mpr ⟨lkoq_2, List.forall_mem_cons.mpr ⟨lkoq_3, List.forall_mem_cons.mpr ⟨lkoq_4, List.forall_mem_cons.mpr ⟨lkoq_5, List.forall_mem_cons.mpr ⟨lkoq_6, List.forall_mem_cons.mpr ⟨lkoq_7, fun _ h => absurd h List.not_mem_nil⟩⟩⟩⟩⟩⟩⟩⟩
def lkO : List (Nat × Nat) := lkO_0
theorem lkO_ok : ∀ q ∈ lkO, okO q := lkO_o0
def okY (q : Nat × Nat) : Prop := Cond.methodLink (kN q.1) q.2 arraycopyName ∈ lw_gt
set_option maxRecDepth 100000 in
theorem lkyq_0 : okY (4, 68) := lw_gi 535 (by decide +kernel) (by decide +kernel)
def lkY_0 : List (Nat × Nat) := [(4, 68)]
theorem lkY_o0 : ∀ q ∈ lkY_0, okY q := List.forall_mem_cons.mpr ⟨lkyq_0, fun _ h => absurd h List.not_mem_nil⟩
def lkY : List (Nat × Nat) := lkY_0
theorem lkY_ok : ∀ q ∈ lkY, okY q := lkY_o0
end
section
/-! THE DECODER, read off the bytes one behind another: an instruction's bytes by a table of opcodes, proved once against the decoder itself (printed by wip/gen/gen12.py). -/
abbrev dk_D (α : Type) := Reader DecodeError α
def dk_B (c : ByteArray) (p b : Nat) : Prop := ∃ h : p < c.size, (c[p]'h).toNat = b
theorem dk_u1 {c : ByteArray} {p b : Nat} (hb : dk_B c p b) : (Reader.u1 : dk_D Nat) c p = .ok (b, p + 1) := by
  obtain ⟨h, e⟩ := hb
  have e1 : (Reader.u1 : dk_D Nat) c p = .ok ((c[p]'h).toNat, p + 1) := by
    show (do if h : p < c.size then do set (p + 1); pure (c[p]'h).toNat else MonadExcept.throw (HasTruncated.truncated p) : dk_D Nat) c p = _
    rw [dif_pos h]
    rfl
  rw [e1, e]
theorem dk_bind {α β : Type} {r : dk_D α} {f : α → dk_D β} {c : ByteArray} {p q : Nat} {a : α} (h : r c p = .ok (a, q)) : (r >>= f) c p = f a c q := by
  show (do let (a, s) ← r c p; f a c s : Except DecodeError (β × Nat)) = _
  rw [h]
  rfl
theorem dk_map {α β : Type} {g : α → β} {r : dk_D α} {c : ByteArray} {p q : Nat} {a : α} (h : r c p = .ok (a, q)) : (g <$> r) c p = .ok (g a, q) := by
  show (do let (a, s) ← r c p; .ok (g a, s) : Except DecodeError (β × Nat)) = _
  rw [h]
  rfl
theorem dk_u2 {c : ByteArray} {p a b : Nat} (h1 : dk_B c p a) (h2 : dk_B c (p + 1) b) : (Reader.u2 : dk_D Nat) c p = .ok (a * 256 + b, p + 2) := by
  show ((Reader.u1 : dk_D Nat) >>= fun x => (Reader.u1 : dk_D Nat) >>= fun y => (pure (x * 256 + y) : dk_D Nat)) c p = _
  rw [dk_bind (dk_u1 h1), dk_bind (dk_u1 h2)]
  rfl
theorem dk_s1 {c : ByteArray} {p a : Nat} (h : dk_B c p a) : (Reader.s1 : dk_D Int) c p = .ok (Reader.signed 8 a, p + 1) := by
  show (Reader.signed 8 <$> (Reader.u1 : dk_D Nat)) c p = _
  exact dk_map (dk_u1 h)
theorem dk_s2 {c : ByteArray} {p a b : Nat} (h1 : dk_B c p a) (h2 : dk_B c (p + 1) b) : (Reader.s2 : dk_D Int) c p = .ok (Reader.signed 16 (a * 256 + b), p + 2) := by
  show (Reader.signed 16 <$> (Reader.u2 : dk_D Nat)) c p = _
  exact dk_map (dk_u2 h1 h2)
def dk_F (r : dk_D Instr) (k : Nat) (f : Nat → Nat → Instr) : Prop := ∀ (c : ByteArray) (p a b : Nat), dk_B c p a → dk_B c (p + 1) b → r c p = .ok (f a b, p + k)
theorem dk_f0 (i : Instr) : dk_F (pure i) 0 (fun _ _ => i) := fun _ _ _ _ _ _ => rfl
theorem dk_f1 (g : Nat → Instr) : dk_F ((Reader.u1 : dk_D Nat) >>= fun x => pure (g x)) 1 (fun a _ => g a) := fun c p a b h1 _ => by
  rw [dk_bind (dk_u1 h1)]
  rfl
theorem dk_fs1 (g : Int → Instr) : dk_F ((Reader.s1 : dk_D Int) >>= fun x => pure (g x)) 1 (fun a _ => g (Reader.signed 8 a)) := fun c p a b h1 _ => by
  rw [dk_bind (dk_s1 h1)]
  rfl
theorem dk_f2 (g : Nat → Instr) : dk_F ((Reader.u2 : dk_D Nat) >>= fun x => pure (g x)) 2 (fun a b => g (a * 256 + b)) := fun c p a b h1 h2 => by
  rw [dk_bind (dk_u2 h1 h2)]
  rfl
theorem dk_fs2 (g : Int → Instr) : dk_F ((Reader.s2 : dk_D Int) >>= fun x => pure (g x)) 2 (fun a b => g (Reader.signed 16 (a * 256 + b))) := fun c p a b h1 h2 => by
  rw [dk_bind (dk_s2 h1 h2)]
  rfl
theorem dk_fi : dk_F ((Reader.u1 : dk_D Nat) >>= fun x => (Reader.s1 : dk_D Int) >>= fun y => pure (.iinc x y)) 2 (fun a b => .iinc a (Reader.signed 8 b)) := fun c p a b h1 h2 => by
  rw [dk_bind (dk_u1 h1), dk_bind (dk_s1 h2)]
  rfl
def dk_tab : List (Nat × Nat × (Nat → Nat → Instr)) := [(42, 0, fun _ _ => .aload_n 0), (180, 2, fun a b => .getfield (a * 256 + b)), (182, 2, fun a b => .invokevirtual (a * 256 + b)), (27, 0, fun _ _ => .iload_n 1), (167, 2, fun a b => .goto (Reader.signed 16 (a * 256 + b))), (3, 0, fun _ _ => .iconst 0), (46, 0, fun _ _ => .iaload), (172, 0, fun _ _ => .ireturn), (28, 0, fun _ _ => .iload_n 2), (29, 0, fun _ _ => .iload_n 3), (4, 0, fun _ _ => .iconst 1), (16, 1, fun a _ => .bipush (Reader.signed 8 a)), (96, 0, fun _ _ => .iadd), (21, 1, fun a _ => .iload a), (153, 2, fun a b => .ifCond .eq (Reader.signed 16 (a * 256 + b))), (43, 0, fun _ _ => .aload_n 1), (181, 2, fun a b => .putfield (a * 256 + b)), (184, 2, fun a b => .invokestatic (a * 256 + b)), (162, 2, fun a b => .if_icmp .ge (Reader.signed 16 (a * 256 + b))), (154, 2, fun a b => .ifCond .ne (Reader.signed 16 (a * 256 + b))), (132, 2, fun a b => .iinc a (Reader.signed 8 b)), (79, 0, fun _ _ => .iastore), (54, 1, fun a _ => .istore a), (5, 0, fun _ _ => .iconst 2), (87, 0, fun _ _ => .pop), (2, 0, fun _ _ => .iconst (-1)), (61, 0, fun _ _ => .istore_n 2), (160, 2, fun a b => .if_icmp .ne (Reader.signed 16 (a * 256 + b))), (100, 0, fun _ _ => .isub), (7, 0, fun _ _ => .iconst 4), (133, 0, fun _ _ => .i2l), (177, 0, fun _ _ => .return_), (62, 0, fun _ _ => .istore_n 3), (26, 0, fun _ _ => .iload_n 0), (6, 0, fun _ _ => .iconst 3), (104, 0, fun _ _ => .imul), (60, 0, fun _ _ => .istore_n 1), (44, 0, fun _ _ => .aload_n 2), (159, 2, fun a b => .if_icmp .eq (Reader.signed 16 (a * 256 + b))), (9, 0, fun _ _ => .lconst 0), (22, 1, fun a _ => .lload a), (20, 2, fun a b => .ldc2_w (a * 256 + b)), (8, 0, fun _ _ => .iconst 5), (89, 0, fun _ _ => .dup), (126, 0, fun _ _ => .iand), (155, 2, fun a b => .ifCond .lt (Reader.signed 16 (a * 256 + b))), (120, 0, fun _ _ => .ishl), (55, 1, fun a _ => .lstore a), (164, 2, fun a b => .if_icmp .le (Reader.signed 16 (a * 256 + b))), (161, 2, fun a b => .if_icmp .lt (Reader.signed 16 (a * 256 + b))), (163, 2, fun a b => .if_icmp .gt (Reader.signed 16 (a * 256 + b))), (183, 2, fun a b => .invokespecial (a * 256 + b)), (128, 0, fun _ _ => .ior), (122, 0, fun _ _ => .ishr), (10, 0, fun _ _ => .lconst 1), (17, 2, fun a b => .sipush (Reader.signed 16 (a * 256 + b))), (158, 2, fun a b => .ifCond .le (Reader.signed 16 (a * 256 + b))), (112, 0, fun _ _ => .irem), (187, 2, fun a b => .new (a * 256 + b)), (190, 0, fun _ _ => .arraylength), (148, 0, fun _ _ => .lcmp), (173, 0, fun _ _ => .lreturn), (51, 0, fun _ _ => .baload), (18, 1, fun a _ => .ldc a), (156, 2, fun a b => .ifCond .ge (Reader.signed 16 (a * 256 + b))), (50, 0, fun _ _ => .aaload), (92, 0, fun _ _ => .dup2), (25, 1, fun a _ => .aload a), (108, 0, fun _ _ => .idiv), (105, 0, fun _ _ => .lmul), (97, 0, fun _ _ => .ladd), (124, 0, fun _ _ => .iushr)]
set_option maxRecDepth 20000 in
theorem dk_K (pc : Nat) : ∃ K : Nat → dk_D Instr, Decoder.instr pc = ((Reader.u1 : dk_D Nat) >>= K) ∧ ∀ q ∈ dk_tab, dk_F (K q.1) q.2.1 q.2.2 := by
  refine ⟨_, rfl, ?_⟩
  exact List.forall_mem_cons.mpr ⟨dk_f0 (.aload_n 0), List.forall_mem_cons.mpr ⟨dk_f2 (fun x => .getfield x), List.forall_mem_cons.mpr ⟨dk_f2 (fun x => .invokevirtual x), List.forall_mem_cons.mpr ⟨dk_f0 (.iload_n 1), List.forall_mem_cons.mpr ⟨dk_fs2 (fun x => .goto x), List.forall_mem_cons.mpr ⟨dk_f0 (.iconst 0), List.forall_mem_cons.mpr ⟨dk_f0 (.iaload), List.forall_mem_cons.mpr ⟨dk_f0 (.ireturn), List.forall_mem_cons.mpr ⟨dk_f0 (.iload_n 2), List.forall_mem_cons.mpr ⟨dk_f0 (.iload_n 3), List.forall_mem_cons.mpr ⟨dk_f0 (.iconst 1), List.forall_mem_cons.mpr ⟨dk_fs1 (fun x => .bipush x), List.forall_mem_cons.mpr ⟨dk_f0 (.iadd), List.forall_mem_cons.mpr ⟨dk_f1 (fun x => .iload x), List.forall_mem_cons.mpr ⟨dk_fs2 (fun x => .ifCond .eq x), List.forall_mem_cons.mpr ⟨dk_f0 (.aload_n 1), List.forall_mem_cons.mpr ⟨dk_f2 (fun x => .putfield x), List.forall_mem_cons.mpr ⟨dk_f2 (fun x => .invokestatic x), List.forall_mem_cons.mpr ⟨dk_fs2 (fun x => .if_icmp .ge x), List.forall_mem_cons.mpr ⟨dk_fs2 (fun x => .ifCond .ne x), List.forall_mem_cons.mpr ⟨dk_fi, List.forall_mem_cons.mpr ⟨dk_f0 (.iastore), List.forall_mem_cons.mpr ⟨dk_f1 (fun x => .istore x), List.forall_mem_cons.mpr ⟨dk_f0 (.iconst 2), List.forall_mem_cons.mpr ⟨dk_f0 (.pop), List.forall_mem_cons.mpr ⟨dk_f0 (.iconst (-1)), List.forall_mem_cons.mpr ⟨dk_f0 (.istore_n 2), List.forall_mem_cons.mpr ⟨dk_fs2 (fun x => .if_icmp .ne x), List.forall_mem_cons.mpr ⟨dk_f0 (.isub), List.forall_mem_cons.mpr ⟨dk_f0 (.iconst 4), List.forall_mem_cons.mpr ⟨dk_f0 (.i2l), List.forall_mem_cons.mpr ⟨dk_f0 (.return_), List.forall_mem_cons.mpr ⟨dk_f0 (.istore_n 3), List.forall_mem_cons.mpr ⟨dk_f0 (.iload_n 0), List.forall_mem_cons.mpr ⟨dk_f0 (.iconst 3), List.forall_mem_cons.mpr ⟨dk_f0 (.imul), List.forall_mem_cons.mpr ⟨dk_f0 (.istore_n 1), List.forall_mem_cons.mpr ⟨dk_f0 (.aload_n 2), List.forall_mem_cons.mpr ⟨dk_fs2 (fun x => .if_icmp .eq x), List.forall_mem_cons.mpr ⟨dk_f0 (.lconst 0), List.forall_mem_cons.mpr ⟨dk_f1 (fun x => .lload x), List.forall_mem_cons.mpr ⟨dk_f2 (fun x => .ldc2_w x), List.forall_mem_cons.mpr ⟨dk_f0 (.iconst 5), List.forall_mem_cons.mpr ⟨dk_f0 (.dup), List.forall_mem_cons.mpr ⟨dk_f0 (.iand), List.forall_mem_cons.mpr ⟨dk_fs2 (fun x => .ifCond .lt x), List.forall_mem_cons.mpr ⟨dk_f0 (.ishl), List.forall_mem_cons.mpr ⟨dk_f1 (fun x => .lstore x), List.forall_mem_cons.mpr ⟨dk_fs2 (fun x => .if_icmp .le x), List.forall_mem_cons.mpr ⟨dk_fs2 (fun x => .if_icmp .lt x), List.forall_mem_cons.mpr ⟨dk_fs2 (fun x => .if_icmp .gt x), List.forall_mem_cons.mpr ⟨dk_f2 (fun x => .invokespecial x), List.forall_mem_cons.mpr ⟨dk_f0 (.ior), List.forall_mem_cons.mpr ⟨dk_f0 (.ishr), List.forall_mem_cons.mpr ⟨dk_f0 (.lconst 1), List.forall_mem_cons.mpr ⟨dk_fs2 (fun x => .sipush x), List.forall_mem_cons.mpr ⟨dk_fs2 (fun x => .ifCond .le x), List.forall_mem_cons.mpr ⟨dk_f0 (.irem), List.forall_mem_cons.mpr ⟨dk_f2 (fun x => .new x), List.forall_mem_cons.mpr ⟨dk_f0 (.arraylength), List.forall_mem_cons.mpr ⟨dk_f0 (.lcmp), List.forall_mem_cons.mpr ⟨dk_f0 (.lreturn), List.forall_mem_cons.mpr ⟨dk_f0 (.baload), List.forall_mem_cons.mpr ⟨dk_f1 (fun x => .ldc x), List.forall_mem_cons.mpr ⟨dk_fs2 (fun x => .ifCond .ge x), List.forall_mem_cons.mpr ⟨dk_f0 (.aaload), List.forall_mem_cons.mpr ⟨dk_f0 (.dup2), List.forall_mem_cons.mpr ⟨dk_f1 (fun x => .aload x), List.forall_mem_cons.mpr ⟨dk_f0 (.idiv), List.forall_mem_cons.mpr ⟨dk_f0 (.lmul), List.forall_mem_cons.mpr ⟨dk_f0 (.ladd), List.forall_mem_cons.mpr ⟨dk_f0 (.iushr), fun _ h => absurd h List.not_mem_nil⟩⟩⟩⟩⟩⟩⟩⟩⟩⟩⟩⟩⟩⟩⟩⟩⟩⟩⟩⟩⟩⟩⟩⟩⟩⟩⟩⟩⟩⟩⟩⟩⟩⟩⟩⟩⟩⟩⟩⟩⟩⟩⟩⟩⟩⟩⟩⟩⟩⟩⟩⟩⟩⟩⟩⟩⟩⟩⟩⟩⟩⟩⟩⟩⟩⟩⟩⟩⟩⟩⟩⟩
theorem dk_ok {c : ByteArray} {pc o a b k : Nat} {f : Nat → Nat → Instr} (hq : (o, k, f) ∈ dk_tab) (h0 : dk_B c pc o) (h1 : dk_B c (pc + 1) a) (h2 : dk_B c (pc + 2) b) : decode c pc = .ok (f a b, k + 1) := by
  obtain ⟨K, e, hK⟩ := dk_K pc
  have h := hK _ hq c (pc + 1) a b h1 h2
  have hr : Decoder.instr pc c pc = .ok (f a b, pc + 1 + k) := by
    rw [e, dk_bind (dk_u1 h0)]
    exact h
  have h3 : decode c pc = (do let (j, s) ← Decoder.instr pc c pc; pure (j, s - pc) : Except DecodeError (Instr × Nat)) := rfl
  rw [h3, hr]
  show Except.ok (f a b, pc + 1 + k - pc) = _
  rw [show pc + 1 + k - pc = k + 1 by omega]
theorem dk_Bo {c : ByteArray} {pc j : Nat} {x : UInt8} (h : (c.data.toList.drop pc)[j]? = some x) : dk_B c (pc + j) x.toNat := by
  obtain ⟨⟨L⟩⟩ := c
  have h2 : L[pc + j]? = some x := by
    rw [← List.getElem?_drop]
    exact h
  obtain ⟨h3, e⟩ := List.getElem?_eq_some_iff.mp h2
  exact ⟨h3, congrArg UInt8.toNat e⟩
def dk_look (o : Nat) : List (Nat × Nat × (Nat → Nat → Instr)) → Option (Nat × (Nat → Nat → Instr))
  | [] => none
  | x :: r => match Nat.beq x.1 o with
    | true => some x.2
    | false => dk_look o r
theorem dk_look_ok {o : Nat} {q : Nat × (Nat → Nat → Instr)} : ∀ t, dk_look o t = some q → (o, q.1, q.2) ∈ t
  | [], h => by
    have h : (none : Option (Nat × (Nat → Nat → Instr))) = some q := h
    cases h
  | x :: r, h => by
    have h1 : (match Nat.beq x.1 o with
      | true => some x.2
      | false => dk_look o r) = some q := h
    split at h1
    · rename_i hb
      obtain ⟨a, y⟩ := x
      obtain rfl : y = q := Option.some.inj h1
      obtain rfl : a = o := Nat.eq_of_beq_eq_true hb
      exact List.Mem.head _
    · exact List.Mem.tail _ (dk_look_ok r h1)
def dk_t (l : List UInt8) : Option (Instr × Nat) := match l with
  | o :: a :: b :: _ => (match dk_look o.toNat dk_tab with
    | some q => some (q.2 a.toNat b.toNat, q.1 + 1)
    | none => none)
  | _ => none
theorem dk_t_ok {c : ByteArray} {pc : Nat} {z : Instr × Nat} (h : dk_t (c.data.toList.drop pc) = some z) : decode c pc = .ok z := by
  unfold dk_t at h
  split at h
  · rename_i o a b r hl
    split at h
    · rename_i q hq
      obtain rfl := Option.some.inj h
      exact dk_ok (dk_look_ok _ hq) (dk_Bo (j := 0) (by rw [hl]; rfl)) (dk_Bo (j := 1) (by rw [hl]; rfl)) (dk_Bo (j := 2) (by rw [hl]; rfl))
    · cases h
  · cases h
/-! THE METHODS: each entry of the tables is what the bytes decode to, and its links stand (checker). -/
def ck_D (m : pm_M) (pc : Nat) (i : Instr) : Bool := match i with
  | .tableswitch d lo hi offs => (match decode (pm_b m) pc with
    | .ok q => decide (q.1 = .tableswitch d lo hi offs)
    | .error _ => false)
  | i => decide (decode (pm_b m) pc = .ok (i, pm_len i))
theorem ck_D_ok {m : pm_M} {pc : Nat} {i : Instr} (h : ck_D m pc i = true) : pm_okD m pc i := by
  cases i with
  | tableswitch d lo hi offs =>
    have h1 : (match decode (pm_b m) pc with
      | .ok q => decide (q.1 = .tableswitch d lo hi offs)
      | .error _ => false) = true := h
    split at h1
    · rename_i q hq
      obtain ⟨q1, q2⟩ := q
      have h2 : q1 = .tableswitch d lo hi offs := of_decide_eq_true h1
      subst h2
      exact ⟨q2, hq⟩
    · cases h1
  | _ =>
    show decode (pm_b m) pc = Except.ok _
    exact of_decide_eq_true h
noncomputable def ck_R (m : pm_M) (M2 : Nat) : Bool := match pm_m M2 with
  | some m2 => decide (pm_f m2 + 1 ≤ pm_f m) && decide (8 + (pm_ml m2 + 11) + pm_w m2 ≤ pm_w m)
  | none => false
theorem ck_R_ok {m m2 : pm_M} {M2 : Nat} (h : ck_R m M2 = true) (hm : pm_m M2 = some m2) : pm_rmok m m2 := by
  unfold ck_R at h
  rw [hm] at h
  rw [Bool.and_eq_true] at h
  exact ⟨of_decide_eq_true h.1, of_decide_eq_true h.2⟩
/-- is this link in the list? (the place in the pool is looked at first) -/
def lk_f (o ix a b : Nat) : List (Nat × Nat × Nat × Nat) → Bool
  | [] => false
  | q :: r => match Nat.beq q.2.1 ix with
    | true => (Nat.beq q.1 o && (Nat.beq q.2.2.1 a && Nat.beq q.2.2.2 b)) || lk_f o ix a b r
    | false => lk_f o ix a b r
theorem lk_f_ok {o ix a b : Nat} : ∀ t, lk_f o ix a b t = true → (o, ix, a, b) ∈ t
  | [], h => by
    have h : false = true := h
    cases h
  | q :: r, h => by
    have h1 : (match Nat.beq q.2.1 ix with
      | true => (Nat.beq q.1 o && (Nat.beq q.2.2.1 a && Nat.beq q.2.2.2 b)) || lk_f o ix a b r
      | false => lk_f o ix a b r) = true := h
    split at h1
    · rename_i hi
      obtain ⟨q1, q2, q3, q4⟩ := q
      rw [Bool.or_eq_true, Bool.and_eq_true, Bool.and_eq_true] at h1
      rcases h1 with ⟨e1, e3, e4⟩ | h1
      · obtain rfl : q1 = o := Nat.eq_of_beq_eq_true e1
        obtain rfl : q2 = ix := Nat.eq_of_beq_eq_true hi
        obtain rfl : q3 = a := Nat.eq_of_beq_eq_true e3
        obtain rfl : q4 = b := Nat.eq_of_beq_eq_true e4
        exact List.Mem.head _
      · exact List.Mem.tail _ (lk_f_ok r h1)
    · exact List.Mem.tail _ (lk_f_ok r h1)
noncomputable def ck_L (m : pm_M) (pc : Nat) (e : pm_E) : Bool := match e.1 with
  | .ldc ix => if e.2.1 = 0 then decide ((pm_o m, ix, e.2.2.2) ∈ lkC) else if e.2.1 = 1 then decide (kN (pm_o m) = "MoodTown$Telling") && decide (sg_ix (e.2.2.1 - 1) = ix) else true
  | .ldc_w ix => if e.2.1 = 0 then decide ((pm_o m, ix, e.2.2.2) ∈ lkC) else true
  | .ldc2_w ix => decide ((pm_o m, ix, e.2.2.2) ∈ lkJ)
  | .ifCond _ off => decide ((pc : Int) + off = (e.2.1 : Int))
  | .if_icmp _ off => decide ((pc : Int) + off = (e.2.1 : Int))
  | .goto off => decide ((pc : Int) + off = (e.2.1 : Int))
  | .getfield ix => lk_f (pm_o m) ix e.2.1 e.2.2.1 lkF
  | .putfield ix => lk_f (pm_o m) ix e.2.1 e.2.2.1 lkF && (decide ((kT e.2.1 e.2.2.1).2.2.2 = false) || (decide ((kT e.2.1 e.2.2.1).2.2.2 = true) && (decide ((pm_y m).name = "<init>") && decide (kN e.2.1 = kN (pm_o m)))))
  | .new ix => decide ((pm_o m, ix, e.2.1) ∈ lkW)
  | .anewarray ix => decide ((pm_o m, ix, e.2.1) ∈ lkA)
  | .invokevirtual ix => if e.2.2.1 = 0 then lk_f (pm_o m) ix e.2.1 0 lkM && ck_R m e.2.1 else if e.2.2.1 = 4 then decide (kN (pm_o m) = "MoodTown$Tape" ∧ ix = 38 ∧ 2 ≤ pm_f m ∧ 40 ≤ pm_w m) else if e.2.2.1 = 5 then decide (kN (pm_o m) = "MoodTown$Tape" ∧ ix = 43 ∧ 4 ≤ pm_f m ∧ 85 ≤ pm_w m) else true
  | .invokespecial ix => if e.2.2.1 = 1 then lk_f (pm_o m) ix e.2.1 1 lkM && ck_R m e.2.1 else if e.2.2.1 = 9 then decide ((pm_o m, ix) ∈ lkO) && (decide (1 ≤ pm_f m) && decide (20 ≤ pm_w m)) else true
  | .invokestatic ix => if e.2.2.1 = 8 then decide ((pm_o m, ix) ∈ lkY) && (decide (1 ≤ pm_f m) && decide (18 ≤ pm_w m)) else if e.2.2.1 = 2 then lk_f (pm_o m) ix e.2.1 2 lkM && ck_R m e.2.1 else if e.2.2.1 = 3 then decide ((pm_o m, ix, e.2.1) ∈ lkN) && ck_R m e.2.1 else true
  | _ => true
theorem ck_L_ok {m : pm_M} {pc : Nat} {e : pm_E} (h : ck_L m pc e = true) : pm_okL pm_m m pc e := by
  obtain ⟨i, a, b, z⟩ := e
  cases i with
  | ldc ix =>
    refine ⟨fun ha => lkC_ok _ (of_decide_eq_true ((if_pos ha).symm.trans h)), fun ha => ?_⟩
    have ha : a = 1 := ha
    subst ha
    have h2 : (decide (kN (pm_o m) = "MoodTown$Telling") && decide (sg_ix (b - 1) = ix)) = true := h
    rw [Bool.and_eq_true] at h2
    exact ⟨of_decide_eq_true h2.1, of_decide_eq_true h2.2⟩
  | ldc_w ix => exact fun ha => lkC_ok _ (of_decide_eq_true ((if_pos ha).symm.trans h))
  | ldc2_w ix => exact lkJ_ok _ (of_decide_eq_true h)
  | ifCond _ off =>
    show (pc : Int) + off = (a : Int)
    exact of_decide_eq_true h
  | if_icmp _ off =>
    show (pc : Int) + off = (a : Int)
    exact of_decide_eq_true h
  | goto off =>
    show (pc : Int) + off = (a : Int)
    exact of_decide_eq_true h
  | getfield ix => exact lkF_ok _ (lk_f_ok _ h)
  | putfield ix =>
    have h1 := (Bool.and_eq_true _ _ ▸ h : _ ∧ _)
    refine ⟨lkF_ok _ (lk_f_ok _ h1.1), ?_⟩
    have h2 := h1.2
    rw [Bool.or_eq_true, Bool.and_eq_true, Bool.and_eq_true] at h2
    rcases h2 with h2 | h2
    · exact Or.inl (of_decide_eq_true h2)
    · exact Or.inr ⟨of_decide_eq_true h2.1, of_decide_eq_true h2.2.1, of_decide_eq_true h2.2.2⟩
  | new ix => exact lkW_ok _ (of_decide_eq_true h)
  | anewarray ix => exact lkA_ok _ (of_decide_eq_true h)
  | invokevirtual ix =>
    refine ⟨?_, fun hb => ?_, fun hb => ?_⟩
    rotate_left 1
    · have hb : b = 4 := hb
      subst hb
      exact of_decide_eq_true (p := kN (pm_o m) = "MoodTown$Tape" ∧ ix = 38 ∧ 2 ≤ pm_f m ∧ 40 ≤ pm_w m) h
    · have hb : b = 5 := hb
      subst hb
      exact of_decide_eq_true (p := kN (pm_o m) = "MoodTown$Tape" ∧ ix = 43 ∧ 4 ≤ pm_f m ∧ 85 ≤ pm_w m) h
    intro hb m2 hm
    have h1 := (if_pos hb).symm.trans h
    rw [Bool.and_eq_true] at h1
    obtain ⟨m3, hm3, hk, hl⟩ := lkM_ok _ (lk_f_ok _ h1.1)
    obtain rfl : m3 = m2 := Option.some.inj (hm3.symm.trans hm)
    exact ⟨hk.1, hl, hk.2.1, hk.2.2.1, hk.2.2.2.1, hk.2.2.2.2, ck_R_ok h1.2 hm⟩
  | invokespecial ix =>
    refine ⟨fun hb m2 hm => ?_, fun hb => ?_⟩
    · have h1 := (if_pos hb).symm.trans h
      rw [Bool.and_eq_true] at h1
      obtain ⟨m3, hm3, hk, hl⟩ := lkM_ok _ (lk_f_ok _ h1.1)
      obtain rfl : m3 = m2 := Option.some.inj (hm3.symm.trans hm)
      exact ⟨hk.1, hl, hk.2.1, hk.2.2.1, hk.2.2.2, ck_R_ok h1.2 hm⟩
    · have hb : b = 9 := hb
      have h0 := (if_neg (by show ¬ b = 1; omega)).symm.trans h
      have h1 := (if_pos hb).symm.trans h0
      rw [Bool.and_eq_true, Bool.and_eq_true] at h1
      exact ⟨lkO_ok _ (of_decide_eq_true h1.1), of_decide_eq_true h1.2.1, of_decide_eq_true h1.2.2⟩
  | invokestatic ix =>
    refine ⟨fun hb => ?_, fun hb m2 hm => ?_, fun hb m2 hm => ?_⟩
    · have h1 := (if_pos hb).symm.trans h
      rw [Bool.and_eq_true, Bool.and_eq_true] at h1
      exact ⟨lkY_ok _ (of_decide_eq_true h1.1), of_decide_eq_true h1.2.1, of_decide_eq_true h1.2.2⟩
    · have hb : b = 2 := hb
      have h0 := (if_neg (by show ¬ b = 8; omega)).symm.trans h
      have h1 := (if_pos hb).symm.trans h0
      rw [Bool.and_eq_true] at h1
      obtain ⟨m3, hm3, hk, hl⟩ := lkM_ok _ (lk_f_ok _ h1.1)
      obtain rfl : m3 = m2 := Option.some.inj (hm3.symm.trans hm)
      exact ⟨hk.1, hl, hk.2, ck_R_ok h1.2 hm⟩
    · have hb : b = 3 := hb
      have h0 := (if_neg (by show ¬ b = 8; omega)).symm.trans h
      have h0 := (if_neg (by show ¬ b = 2; omega)).symm.trans h0
      have h1 := (if_pos hb).symm.trans h0
      rw [Bool.and_eq_true] at h1
      obtain ⟨m3, hm3, hk, hl⟩ := lkN_ok _ (of_decide_eq_true h1.1)
      obtain rfl : m3 = m2 := Option.some.inj (hm3.symm.trans hm)
      exact ⟨hk.1, hl, hk.2, ck_R_ok h1.2 hm⟩
  | _ => exact trivial
def ck_Dw (m : pm_M) (pc : Nat) (l : List UInt8) (i : Instr) : Bool := match dk_t l with
  | some z => decide (z = (i, pm_len i))
  | none => ck_D m pc i
theorem ck_Dw_ok {m : pm_M} {pc : Nat} {l : List UInt8} {i : Instr} (hl : l = (pm_b m).data.toList.drop pc) (h : ck_Dw m pc l i = true) : pm_okD m pc i := by
  subst hl
  unfold ck_Dw at h
  split at h
  · rename_i z hz
    have hd := dk_t_ok hz
    rw [of_decide_eq_true h] at hd
    clear h hz
    cases i with
    | tableswitch d lo hi offs => exact ⟨_, hd⟩
    | _ => exact hd
  · exact ck_D_ok h
noncomputable def ck_E (m : pm_M) (pc : Nat) (l : List UInt8) (e : Option pm_E) : Bool := match e with
  | some e => ck_Dw m pc l e.1 && ck_L m pc e
  | none => true
noncomputable def ck_ch (m : pm_M) : List (Option pm_E) → Nat → List UInt8 → Bool
  | [], _, _ => true
  | e :: r, pc, l => ck_E m pc l e && ck_ch m r (pc + 1) l.tail
noncomputable def ck_t (m : pm_M) : List (List (Option pm_E)) → Nat → Bool
  | [], _ => true
  | ch :: r, q => ck_ch m ch (16 * q) ((pm_b m).data.toList.drop (16 * q)) && ck_t m r (q + 1)
theorem ck_ch_ok {m : pm_M} : ∀ (ch : List (Option pm_E)) (pc j : Nat) (e : pm_E) (l : List UInt8), l = (pm_b m).data.toList.drop pc → ck_ch m ch pc l = true → ch[j]? = some (some e) → pm_okD m (pc + j) e.1 ∧ ck_L m (pc + j) e = true
  | [], _, _, _, _, _, _, h => by simp at h
  | e0 :: r, pc, j, e, l, hl, hc, h => by
    have h1 : ck_E m pc l e0 = true ∧ ck_ch m r (pc + 1) l.tail = true := by rw [← Bool.and_eq_true]; exact hc
    cases j with
    | zero =>
      cases h
      have h2 : ck_Dw m pc l e.1 = true ∧ ck_L m pc e = true := by rw [← Bool.and_eq_true]; exact h1.1
      exact ⟨ck_Dw_ok hl h2.1, h2.2⟩
    | succ j =>
      rw [show pc + (j + 1) = pc + 1 + j by omega]
      exact ck_ch_ok r (pc + 1) j e l.tail (by rw [hl, List.tail_drop]) h1.2 h
theorem ck_t_ok {m : pm_M} : ∀ (t : List (List (Option pm_E))) (q j : Nat) (ch : List (Option pm_E)), ck_t m t q = true → t[j]? = some ch → ck_ch m ch (16 * (q + j)) ((pm_b m).data.toList.drop (16 * (q + j))) = true
  | [], _, _, _, _, h => by simp at h
  | c0 :: r, q, j, ch, hc, h => by
    have h1 : ck_ch m c0 (16 * q) ((pm_b m).data.toList.drop (16 * q)) = true ∧ ck_t m r (q + 1) = true := by rw [← Bool.and_eq_true]; exact hc
    cases j with
    | zero => cases h; exact h1.1
    | succ j =>
      rw [show q + (j + 1) = q + 1 + j by omega]
      exact ck_t_ok r (q + 1) j ch h1.2 h
theorem ck_ok {m : pm_M} (h : ck_t m (pm_t m) 0 = true) (pc : Nat) (e : pm_E) (he : pm_at m pc = some e) : pm_okD m pc e.1 ∧ pm_okL pm_m m pc e := by
  unfold pm_at at he
  split at he
  · cases he
  · rename_i ch hch
    split at he
    · rename_i e1 he1
      cases he
      have h1 := ck_ch_ok ch _ _ e _ rfl (ck_t_ok (pm_t m) 0 (pc / 16) ch h hch) he1
      rw [show 16 * (0 + pc / 16) + pc % 16 = pc by omega] at h1
      exact ⟨h1.1, ck_L_ok h1.2⟩
    · cases he
def ck_P (m : pm_M) : Prop := plainFor (pm_y m) = true ∧ kN (pm_o m) = (pm_y m).cls ∧ ck_t m (pm_t m) 0 = true
theorem pl_0 : plainName "MoodTown" = true := by decide +kernel
theorem pl_1 : plainName "MoodTown$Search" = true := by decide +kernel
theorem pl_2 : plainName "MoodTown$Sheet" = true := by decide +kernel
theorem pl_3 : plainName "MoodTown$Tape" = true := by decide +kernel
theorem pl_4 : plainName "MoodTown$Telling" = true := by decide +kernel
theorem pl_5 : plainName "MoodTown$Town" = true := by decide +kernel
theorem pl_6 : plainName "MoodTown$Walk" = true := by decide +kernel
theorem pl_7 : plainName "MoodTownLaw" = true := by decide +kernel
theorem pl_8 : plainName "MoodTownModel" = true := by decide +kernel
end
