noncomputable def va_h0 : am_H := (80, [])
noncomputable def vp_0 : List vm_R := [(some (.inl (.ofNat 0, .ofNat 3)), va_h0)]
noncomputable def ve_0 : List vm_E := [([.inl am_top, .inl am_top, .inl am_top], va_h0, 0, [0])]
noncomputable def q_0 : vm_Q := (96, [.inl am_top, .inl am_top, .inl am_top], va_h0, vp_0)
noncomputable def vk_0 : List vm_U := []
noncomputable def vf_0 : List ((Nat → am_I) → vm_A) := [fun v => (0, [(0, .inl am_top), (1, .inl am_top), (2, .inl am_top)], [], (80, []))]
noncomputable def vd_0_0_0 : List (List Nat) := [[0]]
noncomputable def vd_0_0 : List (List (List Nat)) := [vd_0_0_0]
noncomputable def vd_0 : List (List (List (List Nat))) := [vd_0_0]
noncomputable def vt_0 : List (List am_I) := []
noncomputable def vc_0 : vm_C := (fun _ => vp_0, fun pc => [], [], 1, vm_inst 8 1 vt_0 vf_0 vd_0)
theorem vx_0_0 : vm_chk bt_96 [] vk_0 14 vc_0 0 1 = true := by decide +kernel
theorem vy_0 : vm_ents 96 14 vc_0 ve_0 = true := by decide +kernel
theorem vw_0 : ∀ q ∈ vk_0, vm_wt 1 q := vm_wts vm_kn (by decide +kernel)
theorem v_0 : vm_at 2 q_0 := vm_ok (inl := []) (es := ve_0) bq_96 (by decide) vw_0 vy_0 (fun i => vm_hc vx_0_0 rfl (fun h => absurd h (Nat.not_lt_zero _))) _ List.mem_cons_self
noncomputable def vp_1 : List vm_R := [(some (.inl am_top), va_h0)]
noncomputable def ve_1 : List vm_E := [([.inl am_top], va_h0, 0, [0])]
noncomputable def q_1 : vm_Q := (72, [.inl am_top], va_h0, vp_1)
noncomputable def vk_1 : List vm_U := []
noncomputable def vf_1 : List ((Nat → am_I) → vm_A) := [fun v => (0, [(0, .inl am_top)], [], (80, []))]
noncomputable def vd_1_0_0 : List (List Nat) := [[0]]
noncomputable def vd_1_0 : List (List (List Nat)) := [vd_1_0_0]
noncomputable def vd_1 : List (List (List (List Nat))) := [vd_1_0]
noncomputable def vt_1 : List (List am_I) := []
noncomputable def vc_1 : vm_C := (fun _ => vp_1, fun pc => [], [], 1, vm_inst 8 1 vt_1 vf_1 vd_1)
theorem vx_1_0 : vm_chk bt_72 [] vk_1 11 vc_1 0 1 = true := by decide +kernel
theorem vy_1 : vm_ents 72 11 vc_1 ve_1 = true := by decide +kernel
theorem vw_1 : ∀ q ∈ vk_1, vm_wt 1 q := vm_wts vm_kn (by decide +kernel)
theorem v_1 : vm_at 2 q_1 := vm_ok (inl := []) (es := ve_1) bq_72 (by decide) vw_1 vy_1 (fun i => vm_hc vx_1_0 rfl (fun h => absurd h (Nat.not_lt_zero _))) _ List.mem_cons_self
noncomputable def vp_2 : List vm_R := [(some (.inl (.ofNat 4, .ofNat 25)), va_h0)]
noncomputable def ve_2 : List vm_E := [([.inr (.inr (some 20))], va_h0, 0, [0])]
noncomputable def q_2 : vm_Q := (39, [.inr (.inr (some 20))], va_h0, vp_2)
noncomputable def vk_2 : List vm_U := []
noncomputable def vf_2 : List ((Nat → am_I) → vm_A) := [fun v => (0, [(0, .inr (.inr (some 20)))], [], (80, []))]
noncomputable def vd_2_0_0 : List (List Nat) := [[0]]
noncomputable def vd_2_0 : List (List (List Nat)) := [vd_2_0_0]
noncomputable def vd_2 : List (List (List (List Nat))) := [vd_2_0]
noncomputable def vt_2 : List (List am_I) := []
noncomputable def vc_2 : vm_C := (fun _ => vp_2, fun pc => [], [], 1, vm_inst 8 1 vt_2 vf_2 vd_2)
theorem vx_2_0 : vm_chk bt_39 [] vk_2 8 vc_2 0 1 = true := by decide +kernel
theorem vy_2 : vm_ents 39 8 vc_2 ve_2 = true := by decide +kernel
theorem vw_2 : ∀ q ∈ vk_2, vm_wt 1 q := vm_wts vm_kn (by decide +kernel)
theorem v_2 : vm_at 2 q_2 := vm_ok (inl := []) (es := ve_2) bq_39 (by decide) vw_2 vy_2 (fun i => vm_hc vx_2_0 rfl (fun h => absurd h (Nat.not_lt_zero _))) _ List.mem_cons_self
noncomputable def vp_3 : List vm_R := [(some (.inl (.ofNat 0, .ofNat 1)), va_h0)]
noncomputable def ve_3 : List vm_E := [([.inr (.inr (some 20)), .inl am_top], va_h0, 0, [0])]
noncomputable def q_3 : vm_Q := (29, [.inr (.inr (some 20)), .inl am_top], va_h0, vp_3)
noncomputable def vk_3 : List vm_U := []
noncomputable def vf_3 : List ((Nat → am_I) → vm_A) := [fun v => (0, [(0, .inr (.inr (some 20))), (1, .inl am_top)], [], (80, []))]
noncomputable def vd_3_0_0 : List (List Nat) := [[0]]
noncomputable def vd_3_0 : List (List (List Nat)) := [vd_3_0_0]
noncomputable def vd_3 : List (List (List (List Nat))) := [vd_3_0]
noncomputable def vt_3 : List (List am_I) := []
noncomputable def vc_3 : vm_C := (fun _ => vp_3, fun pc => [], [], 1, vm_inst 8 1 vt_3 vf_3 vd_3)
theorem vx_3_0 : vm_chk bt_29 [] vk_3 12 vc_3 0 1 = true := by decide +kernel
theorem vy_3 : vm_ents 29 12 vc_3 ve_3 = true := by decide +kernel
theorem vw_3 : ∀ q ∈ vk_3, vm_wt 1 q := vm_wts vm_kn (by decide +kernel)
theorem v_3 : vm_at 2 q_3 := vm_ok (inl := []) (es := ve_3) bq_29 (by decide) vw_3 vy_3 (fun i => vm_hc vx_3_0 rfl (fun h => absurd h (Nat.not_lt_zero _))) _ List.mem_cons_self
noncomputable def vp_4 : List vm_R := [(some (.inl (.negSucc 3, .ofNat 4)), va_h0)]
noncomputable def ve_4 : List vm_E := [([.inr (.inr (some 20)), .inl am_top], va_h0, 0, [0])]
noncomputable def q_4 : vm_Q := (30, [.inr (.inr (some 20)), .inl am_top], va_h0, vp_4)
noncomputable def vk_4 : List vm_U := []
noncomputable def vf_4 : List ((Nat → am_I) → vm_A) := [fun v => (0, [(0, .inr (.inr (some 20))), (1, .inl am_top)], [], (80, [])), fun v => (2, [(0, .inr (.inr (some 20))), (1, .inl am_top), (2, .inl (v 0))], [], (80, []))]
noncomputable def vd_4_0_0 : List (List Nat) := [[65536, 65537, 4295032833, 8590000129, 12884967425, 17179934721, 83886081]]
noncomputable def vd_4_0 : List (List (List Nat)) := [vd_4_0_0]
noncomputable def vd_4 : List (List (List (List Nat))) := [vd_4_0]
noncomputable def vt_4 : List (List am_I) := []
noncomputable def vc_4 : vm_C := (fun _ => vp_4, fun pc => [], [2], 7, vm_inst 8 6 vt_4 vf_4 vd_4)
theorem vx_4_0 : vm_chk bt_30 [] vk_4 15 vc_4 0 7 = true := by decide +kernel
theorem vy_4 : vm_ents 30 15 vc_4 ve_4 = true := by decide +kernel
theorem vw_4 : ∀ q ∈ vk_4, vm_wt 1 q := vm_wts vm_kn (by decide +kernel)
theorem v_4 : vm_at 2 q_4 := vm_ok (inl := []) (es := ve_4) bq_30 (by decide) vw_4 vy_4 (fun i => vm_hc vx_4_0 rfl (fun h => absurd h (Nat.not_lt_zero _))) _ List.mem_cons_self
noncomputable def vp_5 : List vm_R := [(some (.inl (.ofNat 0, .ofNat 1)), va_h0)]
noncomputable def ve_5 : List vm_E := [([.inr (.inr (some 20)), .inl am_top], va_h0, 0, [0])]
noncomputable def q_5 : vm_Q := (28, [.inr (.inr (some 20)), .inl am_top], va_h0, vp_5)
noncomputable def vk_5 : List vm_U := [(q_3, true, []), (q_4, true, [])]
noncomputable def vf_5 : List ((Nat → am_I) → vm_A) := [fun v => (0, [(0, .inr (.inr (some 20))), (1, .inl am_top)], [], (80, []))]
noncomputable def vd_5_0_0 : List (List Nat) := [[0]]
noncomputable def vd_5_0 : List (List (List Nat)) := [vd_5_0_0]
noncomputable def vd_5 : List (List (List (List Nat))) := [vd_5_0]
noncomputable def vt_5 : List (List am_I) := []
noncomputable def vc_5 : vm_C := (fun _ => vp_5, fun pc => [], [], 1, vm_inst 8 1 vt_5 vf_5 vd_5)
theorem vx_5_0 : vm_chk bt_28 [] vk_5 14 vc_5 0 1 = true := by decide +kernel
theorem vy_5 : vm_ents 28 14 vc_5 ve_5 = true := by decide +kernel
theorem vw_5 : ∀ q ∈ vk_5, vm_wt 2 q := vm_wts (vm_kc (vm_up v_3 rfl) (vm_kc (vm_up v_4 rfl) vm_kn)) (by decide +kernel)
theorem v_5 : vm_at 3 q_5 := vm_ok (inl := []) (es := ve_5) bq_28 (by decide) vw_5 vy_5 (fun i => vm_hc vx_5_0 rfl (fun h => absurd h (Nat.not_lt_zero _))) _ List.mem_cons_self
noncomputable def vp_6 : List vm_R := [(some (.inl (.ofNat 0, .ofNat 4)), va_h0)]
noncomputable def ve_6 : List vm_E := [([.inr (.inr (some 20)), .inl (.ofNat 0, .ofNat 24)], va_h0, 0, [0])]
noncomputable def q_6 : vm_Q := (59, [.inr (.inr (some 20)), .inl (.ofNat 0, .ofNat 24)], va_h0, vp_6)
noncomputable def vk_6 : List vm_U := []
noncomputable def vf_6 : List ((Nat → am_I) → vm_A) := [fun v => (0, [(0, .inr (.inr (some 20))), (1, .inl (.ofNat 0, .ofNat 24))], [], (80, []))]
noncomputable def vd_6_0_0 : List (List Nat) := [[0]]
noncomputable def vd_6_0 : List (List (List Nat)) := [vd_6_0_0]
noncomputable def vd_6 : List (List (List (List Nat))) := [vd_6_0]
noncomputable def vt_6 : List (List am_I) := []
noncomputable def vc_6 : vm_C := (fun _ => vp_6, fun pc => [], [], 1, vm_inst 8 1 vt_6 vf_6 vd_6)
theorem vx_6_0 : vm_chk bt_59 [] vk_6 11 vc_6 0 1 = true := by decide +kernel
theorem vy_6 : vm_ents 59 11 vc_6 ve_6 = true := by decide +kernel
theorem vw_6 : ∀ q ∈ vk_6, vm_wt 1 q := vm_wts vm_kn (by decide +kernel)
theorem v_6 : vm_at 2 q_6 := vm_ok (inl := []) (es := ve_6) bq_59 (by decide) vw_6 vy_6 (fun i => vm_hc vx_6_0 rfl (fun h => absurd h (Nat.not_lt_zero _))) _ List.mem_cons_self
noncomputable def vp_7 : List vm_R := [(some (.inl (.ofNat 0, .ofNat 12)), va_h0)]
noncomputable def ve_7 : List vm_E := [([.inr (.inr (some 20)), .inl (.ofNat 0, .ofNat 24)], va_h0, 0, [0])]
noncomputable def q_7 : vm_Q := (60, [.inr (.inr (some 20)), .inl (.ofNat 0, .ofNat 24)], va_h0, vp_7)
noncomputable def vk_7 : List vm_U := []
noncomputable def vf_7 : List ((Nat → am_I) → vm_A) := [fun v => (0, [(0, .inr (.inr (some 20))), (1, .inl (.ofNat 0, .ofNat 24))], [], (80, []))]
noncomputable def vd_7_0_0 : List (List Nat) := [[0]]
noncomputable def vd_7_0 : List (List (List Nat)) := [vd_7_0_0]
noncomputable def vd_7 : List (List (List (List Nat))) := [vd_7_0]
noncomputable def vt_7 : List (List am_I) := []
noncomputable def vc_7 : vm_C := (fun _ => vp_7, fun pc => [], [], 1, vm_inst 8 1 vt_7 vf_7 vd_7)
theorem vx_7_0 : vm_chk bt_60 [] vk_7 11 vc_7 0 1 = true := by decide +kernel
theorem vy_7 : vm_ents 60 11 vc_7 ve_7 = true := by decide +kernel
theorem vw_7 : ∀ q ∈ vk_7, vm_wt 1 q := vm_wts vm_kn (by decide +kernel)
theorem v_7 : vm_at 2 q_7 := vm_ok (inl := []) (es := ve_7) bq_60 (by decide) vw_7 vy_7 (fun i => vm_hc vx_7_0 rfl (fun h => absurd h (Nat.not_lt_zero _))) _ List.mem_cons_self
noncomputable def vp_8 : List vm_R := [(some (.inl (.ofNat 0, .ofNat 5)), va_h0)]
noncomputable def ve_8 : List vm_E := [([.inr (.inr (some 20))], va_h0, 0, [0])]
noncomputable def q_8 : vm_Q := (78, [.inr (.inr (some 20))], va_h0, vp_8)
noncomputable def vk_8 : List vm_U := []
noncomputable def vf_8 : List ((Nat → am_I) → vm_A) := [fun v => (0, [(0, .inr (.inr (some 20)))], [], (80, [])), fun v => (4, [(0, .inr (.inr (some 20))), (1, .inl (v 0)), (2, .inl (v 1))], [], (80, []))]
noncomputable def vd_8_0_0 : List (List Nat) := [[65536, 65537, 1125281497089, 2229088092161, 3332894687233, 4436701282305, 21642608641]]
noncomputable def vd_8_0 : List (List (List Nat)) := [vd_8_0_0]
noncomputable def vd_8 : List (List (List (List Nat))) := [vd_8_0]
noncomputable def vt_8 : List (List am_I) := [[(.ofNat 0, .ofNat 1), (.ofNat 0, .ofNat 2), (.ofNat 0, .ofNat 3), (.ofNat 0, .ofNat 4), (.ofNat 0, .ofNat 5)]]
noncomputable def vc_8 : vm_C := (fun _ => vp_8, fun pc => [], [4], 7, vm_inst 8 6 vt_8 vf_8 vd_8)
theorem vx_8_0 : vm_chk bt_78 [] vk_8 23 vc_8 0 7 = true := by decide +kernel
theorem vy_8 : vm_ents 78 23 vc_8 ve_8 = true := by decide +kernel
theorem vw_8 : ∀ q ∈ vk_8, vm_wt 1 q := vm_wts vm_kn (by decide +kernel)
theorem v_8 : vm_at 2 q_8 := vm_ok (inl := []) (es := ve_8) bq_78 (by decide) vw_8 vy_8 (fun i => vm_hc vx_8_0 rfl (fun h => absurd h (Nat.not_lt_zero _))) _ List.mem_cons_self
noncomputable def vp_9 : List vm_R := [(some (.inl (.ofNat 0, .ofNat 5)), va_h0)]
noncomputable def ve_9 : List vm_E := [([.inr (.inr (some 20))], va_h0, 0, [0])]
noncomputable def q_9 : vm_Q := (100, [.inr (.inr (some 20))], va_h0, vp_9)
noncomputable def vk_9 : List vm_U := []
noncomputable def vf_9 : List ((Nat → am_I) → vm_A) := [fun v => (0, [(0, .inr (.inr (some 20)))], [], (80, [])), fun v => (4, [(0, .inr (.inr (some 20))), (1, .inl (v 0)), (2, .inl (v 1))], [], (80, []))]
noncomputable def vd_9_0_0 : List (List Nat) := [[65536, 65537, 1125281497089, 2229088092161, 3332894687233, 4436701282305, 21642608641]]
noncomputable def vd_9_0 : List (List (List Nat)) := [vd_9_0_0]
noncomputable def vd_9 : List (List (List (List Nat))) := [vd_9_0]
noncomputable def vt_9 : List (List am_I) := [[(.ofNat 0, .ofNat 1), (.ofNat 0, .ofNat 2), (.ofNat 0, .ofNat 3), (.ofNat 0, .ofNat 4), (.ofNat 0, .ofNat 5)]]
noncomputable def vc_9 : vm_C := (fun _ => vp_9, fun pc => [], [4], 7, vm_inst 8 6 vt_9 vf_9 vd_9)
theorem vx_9_0 : vm_chk bt_100 [] vk_9 20 vc_9 0 7 = true := by decide +kernel
theorem vy_9 : vm_ents 100 20 vc_9 ve_9 = true := by decide +kernel
theorem vw_9 : ∀ q ∈ vk_9, vm_wt 1 q := vm_wts vm_kn (by decide +kernel)
theorem v_9 : vm_at 2 q_9 := vm_ok (inl := []) (es := ve_9) bq_100 (by decide) vw_9 vy_9 (fun i => vm_hc vx_9_0 rfl (fun h => absurd h (Nat.not_lt_zero _))) _ List.mem_cons_self
noncomputable def vp_10 : List vm_R := [(some (.inl (.ofNat 0, .ofNat 1)), va_h0)]
noncomputable def ve_10 : List vm_E := [([.inr (.inr (some 20))], va_h0, 0, [0])]
noncomputable def q_10 : vm_Q := (99, [.inr (.inr (some 20))], va_h0, vp_10)
noncomputable def vk_10 : List vm_U := [(q_8, true, []), (q_9, true, [])]
noncomputable def vf_10 : List ((Nat → am_I) → vm_A) := [fun v => (0, [(0, .inr (.inr (some 20)))], [], (80, []))]
noncomputable def vd_10_0_0 : List (List Nat) := [[0]]
noncomputable def vd_10_0 : List (List (List Nat)) := [vd_10_0_0]
noncomputable def vd_10 : List (List (List (List Nat))) := [vd_10_0]
noncomputable def vt_10 : List (List am_I) := []
noncomputable def vc_10 : vm_C := (fun _ => vp_10, fun pc => [], [], 1, vm_inst 8 1 vt_10 vf_10 vd_10)
theorem vx_10_0 : vm_chk bt_99 [] vk_10 10 vc_10 0 1 = true := by decide +kernel
theorem vy_10 : vm_ents 99 10 vc_10 ve_10 = true := by decide +kernel
theorem vw_10 : ∀ q ∈ vk_10, vm_wt 2 q := vm_wts (vm_kc (vm_up v_8 rfl) (vm_kc (vm_up v_9 rfl) vm_kn)) (by decide +kernel)
theorem v_10 : vm_at 3 q_10 := vm_ok (inl := []) (es := ve_10) bq_99 (by decide) vw_10 vy_10 (fun i => vm_hc vx_10_0 rfl (fun h => absurd h (Nat.not_lt_zero _))) _ List.mem_cons_self
noncomputable def vp_11 : List vm_R := [(some (.inl (.ofNat 0, .ofNat 3)), va_h0)]
noncomputable def ve_11 : List vm_E := [([.inr (.inr (some 20)), .inl am_top, .inl am_top], va_h0, 0, [0])]
noncomputable def q_11 : vm_Q := (95, [.inr (.inr (some 20)), .inl am_top, .inl am_top], va_h0, vp_11)
noncomputable def vk_11 : List vm_U := [(q_0, true, [])]
noncomputable def vf_11 : List ((Nat → am_I) → vm_A) := [fun v => (0, [(0, .inr (.inr (some 20))), (1, .inl am_top), (2, .inl am_top)], [], (80, []))]
noncomputable def vd_11_0_0 : List (List Nat) := [[0]]
noncomputable def vd_11_0 : List (List (List Nat)) := [vd_11_0_0]
noncomputable def vd_11 : List (List (List (List Nat))) := [vd_11_0]
noncomputable def vt_11 : List (List am_I) := []
noncomputable def vc_11 : vm_C := (fun _ => vp_11, fun pc => [], [], 1, vm_inst 8 1 vt_11 vf_11 vd_11)
theorem vx_11_0 : vm_chk bt_95 [] vk_11 8 vc_11 0 1 = true := by decide +kernel
theorem vy_11 : vm_ents 95 8 vc_11 ve_11 = true := by decide +kernel
theorem vw_11 : ∀ q ∈ vk_11, vm_wt 2 q := vm_wts (vm_kc (vm_up v_0 rfl) vm_kn) (by decide +kernel)
theorem v_11 : vm_at 3 q_11 := vm_ok (inl := []) (es := ve_11) bq_95 (by decide) vw_11 vy_11 (fun i => vm_hc vx_11_0 rfl (fun h => absurd h (Nat.not_lt_zero _))) _ List.mem_cons_self
noncomputable def vp_12 : List vm_R := [(some (.inl (.ofNat 0, .ofNat 5)), va_h0)]
noncomputable def ve_12 : List vm_E := [([.inr (.inr (some 20)), .inl am_top], va_h0, 0, [0])]
noncomputable def q_12 : vm_Q := (94, [.inr (.inr (some 20)), .inl am_top], va_h0, vp_12)
noncomputable def vk_12 : List vm_U := [(q_11, true, [])]
noncomputable def vf_12 : List ((Nat → am_I) → vm_A) := [fun v => (0, [(0, .inr (.inr (some 20))), (1, .inl am_top)], [], (80, [])), fun v => (4, [(0, .inr (.inr (some 20))), (1, .inl am_top), (2, .inl (v 0)), (3, .inl (v 1))], [], (80, []))]
noncomputable def vd_12_0_0 : List (List Nat) := [[65536, 65537, 1125281497089, 2229088092161, 3332894687233, 4436701282305, 21642608641]]
noncomputable def vd_12_0 : List (List (List Nat)) := [vd_12_0_0]
noncomputable def vd_12 : List (List (List (List Nat))) := [vd_12_0]
noncomputable def vt_12 : List (List am_I) := [[(.ofNat 0, .ofNat 1), (.ofNat 0, .ofNat 2), (.ofNat 0, .ofNat 3), (.ofNat 0, .ofNat 4), (.ofNat 0, .ofNat 5)]]
noncomputable def vc_12 : vm_C := (fun _ => vp_12, fun pc => [], [4], 7, vm_inst 8 6 vt_12 vf_12 vd_12)
theorem vx_12_0 : vm_chk bt_94 [] vk_12 23 vc_12 0 7 = true := by decide +kernel
theorem vy_12 : vm_ents 94 23 vc_12 ve_12 = true := by decide +kernel
theorem vw_12 : ∀ q ∈ vk_12, vm_wt 3 q := vm_wts (vm_kc (vm_up v_11 rfl) vm_kn) (by decide +kernel)
theorem v_12 : vm_at 4 q_12 := vm_ok (inl := []) (es := ve_12) bq_94 (by decide) vw_12 vy_12 (fun i => vm_hc vx_12_0 rfl (fun h => absurd h (Nat.not_lt_zero _))) _ List.mem_cons_self
noncomputable def vp_13 : List vm_R := [(some (.inr (.inl am_topl)), va_h0)]
noncomputable def ve_13 : List vm_E := [([.inr (.inr (some 20))], va_h0, 0, [0])]
noncomputable def q_13 : vm_Q := (116, [.inr (.inr (some 20))], va_h0, vp_13)
noncomputable def vk_13 : List vm_U := []
noncomputable def vf_13 : List ((Nat → am_I) → vm_A) := [fun v => (0, [(0, .inr (.inr (some 20)))], [], (80, [])), fun v => (4, [(0, .inr (.inr (some 20))), (1, .inr (.inl (v 0))), (3, .inl (v 1))], [], (80, []))]
noncomputable def vd_13_0_0 : List (List Nat) := [[65536, 4295032833, 1125281497089, 2229088092161, 3328599719937, 4428111347713, 21592276993]]
noncomputable def vd_13_0 : List (List (List Nat)) := [vd_13_0_0]
noncomputable def vd_13 : List (List (List (List Nat))) := [vd_13_0]
noncomputable def vt_13 : List (List am_I) := [[(.ofNat 1, .ofNat 10), am_topl]]
noncomputable def vc_13 : vm_C := (fun _ => vp_13, fun pc => [], [4], 7, vm_inst 8 6 vt_13 vf_13 vd_13)
theorem vx_13_0 : vm_chk bt_116 [] vk_13 19 vc_13 0 7 = true := by decide +kernel
theorem vy_13 : vm_ents 116 19 vc_13 ve_13 = true := by decide +kernel
theorem vw_13 : ∀ q ∈ vk_13, vm_wt 1 q := vm_wts vm_kn (by decide +kernel)
theorem v_13 : vm_at 2 q_13 := vm_ok (inl := []) (es := ve_13) bq_116 (by decide) vw_13 vy_13 (fun i => vm_hc vx_13_0 rfl (fun h => absurd h (Nat.not_lt_zero _))) _ List.mem_cons_self
noncomputable def vp_14 : List vm_R := [(some (.inr (.inl am_topl)), va_h0)]
noncomputable def ve_14 : List vm_E := [([.inr (.inr (some 20))], va_h0, 0, [0])]
noncomputable def q_14 : vm_Q := (86, [.inr (.inr (some 20))], va_h0, vp_14)
noncomputable def vk_14 : List vm_U := []
noncomputable def vf_14 : List ((Nat → am_I) → vm_A) := [fun v => (0, [(0, .inr (.inr (some 20)))], [], (80, [])), fun v => (4, [(0, .inr (.inr (some 20))), (1, .inr (.inl (v 0))), (3, .inl (v 1))], [], (80, []))]
noncomputable def vd_14_0_0 : List (List Nat) := [[65536, 65537, 1125281497089, 2229088092161, 3328599719937, 4428111347713, 21592276993]]
noncomputable def vd_14_0 : List (List (List Nat)) := [vd_14_0_0]
noncomputable def vd_14 : List (List (List (List Nat))) := [vd_14_0]
noncomputable def vt_14 : List (List am_I) := [[(.negSucc 2147483647, .ofNat 2147483743), am_topl]]
noncomputable def vc_14 : vm_C := (fun _ => vp_14, fun pc => [], [4], 7, vm_inst 8 6 vt_14 vf_14 vd_14)
theorem vx_14_0 : vm_chk bt_86 [] vk_14 27 vc_14 0 7 = true := by decide +kernel
theorem vy_14 : vm_ents 86 27 vc_14 ve_14 = true := by decide +kernel
theorem vw_14 : ∀ q ∈ vk_14, vm_wt 1 q := vm_wts vm_kn (by decide +kernel)
theorem v_14 : vm_at 2 q_14 := vm_ok (inl := []) (es := ve_14) bq_86 (by decide) vw_14 vy_14 (fun i => vm_hc vx_14_0 rfl (fun h => absurd h (Nat.not_lt_zero _))) _ List.mem_cons_self
noncomputable def vp_15 : List vm_R := [(some (.inl (.ofNat 0, .ofNat 5)), va_h0)]
noncomputable def ve_15 : List vm_E := [([.inr (.inr (some 20))], va_h0, 0, [0])]
noncomputable def q_15 : vm_Q := (144, [.inr (.inr (some 20))], va_h0, vp_15)
noncomputable def vk_15 : List vm_U := []
noncomputable def vf_15 : List ((Nat → am_I) → vm_A) := [fun v => (0, [(0, .inr (.inr (some 20)))], [], (80, [])), fun v => (4, [(0, .inr (.inr (some 20))), (1, .inl (v 0)), (2, .inl (v 1))], [], (80, []))]
noncomputable def vd_15_0_0 : List (List Nat) := [[65536, 65537, 1125281497089, 2229088092161, 3332894687233, 4436701282305, 21642608641]]
noncomputable def vd_15_0 : List (List (List Nat)) := [vd_15_0_0]
noncomputable def vd_15 : List (List (List (List Nat))) := [vd_15_0]
noncomputable def vt_15 : List (List am_I) := [[(.ofNat 0, .ofNat 1), (.ofNat 0, .ofNat 2), (.ofNat 0, .ofNat 3), (.ofNat 0, .ofNat 4), (.ofNat 0, .ofNat 5)]]
noncomputable def vc_15 : vm_C := (fun _ => vp_15, fun pc => [], [4], 7, vm_inst 8 6 vt_15 vf_15 vd_15)
theorem vx_15_0 : vm_chk bt_144 [] vk_15 19 vc_15 0 7 = true := by decide +kernel
theorem vy_15 : vm_ents 144 19 vc_15 ve_15 = true := by decide +kernel
theorem vw_15 : ∀ q ∈ vk_15, vm_wt 1 q := vm_wts vm_kn (by decide +kernel)
theorem v_15 : vm_at 2 q_15 := vm_ok (inl := []) (es := ve_15) bq_144 (by decide) vw_15 vy_15 (fun i => vm_hc vx_15_0 rfl (fun h => absurd h (Nat.not_lt_zero _))) _ List.mem_cons_self
noncomputable def vp_16 : List vm_R := [(some (.inl (.ofNat 0, .ofNat 1)), va_h0)]
noncomputable def ve_16 : List vm_E := [([.inr (.inr (some 20)), .inl (.ofNat 0, .ofNat 4), .inl am_top], va_h0, 0, [0])]
noncomputable def q_16 : vm_Q := (50, [.inr (.inr (some 20)), .inl (.ofNat 0, .ofNat 4), .inl am_top], va_h0, vp_16)
noncomputable def vk_16 : List vm_U := [(q_5, true, [])]
noncomputable def vf_16 : List ((Nat → am_I) → vm_A) := [fun v => (0, [(0, .inr (.inr (some 20))), (1, .inl (.ofNat 0, .ofNat 4)), (2, .inl am_top)], [], (80, []))]
noncomputable def vd_16_0_0 : List (List Nat) := [[0]]
noncomputable def vd_16_0 : List (List (List Nat)) := [vd_16_0_0]
noncomputable def vd_16 : List (List (List (List Nat))) := [vd_16_0]
noncomputable def vt_16 : List (List am_I) := []
noncomputable def vc_16 : vm_C := (fun _ => vp_16, fun pc => [], [], 1, vm_inst 8 1 vt_16 vf_16 vd_16)
theorem vx_16_0 : vm_chk bt_50 [] vk_16 15 vc_16 0 1 = true := by decide +kernel
theorem vy_16 : vm_ents 50 15 vc_16 ve_16 = true := by decide +kernel
theorem vw_16 : ∀ q ∈ vk_16, vm_wt 3 q := vm_wts (vm_kc (vm_up v_5 rfl) vm_kn) (by decide +kernel)
theorem v_16 : vm_at 4 q_16 := vm_ok (inl := []) (es := ve_16) bq_50 (by decide) vw_16 vy_16 (fun i => vm_hc vx_16_0 rfl (fun h => absurd h (Nat.not_lt_zero _))) _ List.mem_cons_self
noncomputable def vp_17 : List vm_R := [(some (.inl (.ofNat 0, .ofNat 4)), va_h0)]
noncomputable def ve_17 : List vm_E := [([.inl (.negSucc 3, .ofNat 4)], va_h0, 0, [0, 1])]
noncomputable def q_17 : vm_Q := (62, [.inl (.negSucc 3, .ofNat 4)], va_h0, vp_17)
noncomputable def vk_17 : List vm_U := []
noncomputable def vf_17 : List ((Nat → am_I) → vm_A) := [fun v => (0, [(0, .inl (v 0))], [], (80, []))]
noncomputable def vd_17_0_0 : List (List Nat) := [[16777216, 33554432]]
noncomputable def vd_17_0 : List (List (List Nat)) := [vd_17_0_0]
noncomputable def vd_17 : List (List (List (List Nat))) := [vd_17_0]
noncomputable def vt_17 : List (List am_I) := [[(.ofNat 0, .ofNat 4), (.negSucc 3, .negSucc 0)]]
noncomputable def vc_17 : vm_C := (fun _ => vp_17, fun pc => (match Nat.beq pc 0 with
  | true => [(fun _ _ => some (.inl 0), fun _ _ => some [.ofNat 0])]
  | false => []), [], 2, vm_inst 8 1 vt_17 vf_17 vd_17)
theorem vx_17_0 : vm_chk bt_62 [] vk_17 8 vc_17 0 2 = true := by decide +kernel
theorem vy_17 : vm_ents 62 8 vc_17 ve_17 = true := by decide +kernel
theorem vw_17 : ∀ q ∈ vk_17, vm_wt 1 q := vm_wts vm_kn (by decide +kernel)
theorem v_17 : vm_at 2 q_17 := vm_ok (inl := []) (es := ve_17) bq_62 (by decide) vw_17 vy_17 (fun i => vm_hc vx_17_0 rfl (fun h => absurd h (Nat.not_lt_zero _))) _ List.mem_cons_self
noncomputable def vp_18 : List vm_R := [(some (.inl (.ofNat 0, .ofNat 12)), va_h0)]
noncomputable def ve_18 : List vm_E := [([.inl (.negSucc 11, .ofNat 12)], va_h0, 0, [0, 1])]
noncomputable def q_18 : vm_Q := (62, [.inl (.negSucc 11, .ofNat 12)], va_h0, vp_18)
noncomputable def vk_18 : List vm_U := []
noncomputable def vf_18 : List ((Nat → am_I) → vm_A) := [fun v => (0, [(0, .inl (v 0))], [], (80, []))]
noncomputable def vd_18_0_0 : List (List Nat) := [[16777216, 33554432]]
noncomputable def vd_18_0 : List (List (List Nat)) := [vd_18_0_0]
noncomputable def vd_18 : List (List (List (List Nat))) := [vd_18_0]
noncomputable def vt_18 : List (List am_I) := [[(.ofNat 0, .ofNat 12), (.negSucc 11, .negSucc 0)]]
noncomputable def vc_18 : vm_C := (fun _ => vp_18, fun pc => (match Nat.beq pc 0 with
  | true => [(fun _ _ => some (.inl 0), fun _ _ => some [.ofNat 0])]
  | false => []), [], 2, vm_inst 8 1 vt_18 vf_18 vd_18)
theorem vx_18_0 : vm_chk bt_62 [] vk_18 8 vc_18 0 2 = true := by decide +kernel
theorem vy_18 : vm_ents 62 8 vc_18 ve_18 = true := by decide +kernel
theorem vw_18 : ∀ q ∈ vk_18, vm_wt 1 q := vm_wts vm_kn (by decide +kernel)
theorem v_18 : vm_at 2 q_18 := vm_ok (inl := []) (es := ve_18) bq_62 (by decide) vw_18 vy_18 (fun i => vm_hc vx_18_0 rfl (fun h => absurd h (Nat.not_lt_zero _))) _ List.mem_cons_self
noncomputable def vp_19 : List vm_R := [(some (.inl (.ofNat 0, .ofNat 16)), va_h0)]
noncomputable def ve_19 : List vm_E := [([.inr (.inr (some 20)), .inl (.ofNat 0, .ofNat 4), .inl (.ofNat 0, .ofNat 4)], va_h0, 0, [0])]
noncomputable def q_19 : vm_Q := (109, [.inr (.inr (some 20)), .inl (.ofNat 0, .ofNat 4), .inl (.ofNat 0, .ofNat 4)], va_h0, vp_19)
noncomputable def vk_19 : List vm_U := [(q_6, true, []), (q_7, true, []), (q_17, true, []), (q_18, true, [])]
noncomputable def vf_19 : List ((Nat → am_I) → vm_A) := [fun v => (0, [(0, .inr (.inr (some 20))), (1, .inl (.ofNat 0, .ofNat 4)), (2, .inl (.ofNat 0, .ofNat 4))], [], (80, []))]
noncomputable def vd_19_0_0 : List (List Nat) := [[0]]
noncomputable def vd_19_0 : List (List (List Nat)) := [vd_19_0_0]
noncomputable def vd_19 : List (List (List (List Nat))) := [vd_19_0]
noncomputable def vt_19 : List (List am_I) := []
noncomputable def vc_19 : vm_C := (fun _ => vp_19, fun pc => [], [], 1, vm_inst 8 1 vt_19 vf_19 vd_19)
theorem vx_19_0 : vm_chk bt_109 [] vk_19 32 vc_19 0 1 = true := by decide +kernel
theorem vy_19 : vm_ents 109 32 vc_19 ve_19 = true := by decide +kernel
theorem vw_19 : ∀ q ∈ vk_19, vm_wt 2 q := vm_wts (vm_kc (vm_up v_6 rfl) (vm_kc (vm_up v_7 rfl) (vm_kc (vm_up v_17 rfl) (vm_kc (vm_up v_18 rfl) vm_kn)))) (by decide +kernel)
theorem v_19 : vm_at 3 q_19 := vm_ok (inl := []) (es := ve_19) bq_109 (by decide) vw_19 vy_19 (fun i => vm_hc vx_19_0 rfl (fun h => absurd h (Nat.not_lt_zero _))) _ List.mem_cons_self
noncomputable def vp_20 : List vm_R := [(some (.inl (.ofNat 4, .ofNat 25)), va_h0)]
noncomputable def ve_20 : List vm_E := [([.inr (.inr (some 35))], va_h0, 0, [0])]
noncomputable def q_20 : vm_Q := (39, [.inr (.inr (some 35))], va_h0, vp_20)
noncomputable def vk_20 : List vm_U := []
noncomputable def vf_20 : List ((Nat → am_I) → vm_A) := [fun v => (0, [(0, .inr (.inr (some 35)))], [], (80, []))]
noncomputable def vd_20_0_0 : List (List Nat) := [[0]]
noncomputable def vd_20_0 : List (List (List Nat)) := [vd_20_0_0]
noncomputable def vd_20 : List (List (List (List Nat))) := [vd_20_0]
noncomputable def vt_20 : List (List am_I) := []
noncomputable def vc_20 : vm_C := (fun _ => vp_20, fun pc => [], [], 1, vm_inst 8 1 vt_20 vf_20 vd_20)
theorem vx_20_0 : vm_chk bt_39 [] vk_20 8 vc_20 0 1 = true := by decide +kernel
theorem vy_20 : vm_ents 39 8 vc_20 ve_20 = true := by decide +kernel
theorem vw_20 : ∀ q ∈ vk_20, vm_wt 1 q := vm_wts vm_kn (by decide +kernel)
theorem v_20 : vm_at 2 q_20 := vm_ok (inl := []) (es := ve_20) bq_39 (by decide) vw_20 vy_20 (fun i => vm_hc vx_20_0 rfl (fun h => absurd h (Nat.not_lt_zero _))) _ List.mem_cons_self
noncomputable def vp_21 : List vm_R := [(some (.inl (.ofNat 0, .ofNat 1)), va_h0)]
noncomputable def ve_21 : List vm_E := [([.inr (.inr (some 35)), .inl am_top], va_h0, 0, [0])]
noncomputable def q_21 : vm_Q := (29, [.inr (.inr (some 35)), .inl am_top], va_h0, vp_21)
noncomputable def vk_21 : List vm_U := []
noncomputable def vf_21 : List ((Nat → am_I) → vm_A) := [fun v => (0, [(0, .inr (.inr (some 35))), (1, .inl am_top)], [], (80, []))]
noncomputable def vd_21_0_0 : List (List Nat) := [[0]]
noncomputable def vd_21_0 : List (List (List Nat)) := [vd_21_0_0]
noncomputable def vd_21 : List (List (List (List Nat))) := [vd_21_0]
noncomputable def vt_21 : List (List am_I) := []
noncomputable def vc_21 : vm_C := (fun _ => vp_21, fun pc => [], [], 1, vm_inst 8 1 vt_21 vf_21 vd_21)
theorem vx_21_0 : vm_chk bt_29 [] vk_21 12 vc_21 0 1 = true := by decide +kernel
theorem vy_21 : vm_ents 29 12 vc_21 ve_21 = true := by decide +kernel
theorem vw_21 : ∀ q ∈ vk_21, vm_wt 1 q := vm_wts vm_kn (by decide +kernel)
theorem v_21 : vm_at 2 q_21 := vm_ok (inl := []) (es := ve_21) bq_29 (by decide) vw_21 vy_21 (fun i => vm_hc vx_21_0 rfl (fun h => absurd h (Nat.not_lt_zero _))) _ List.mem_cons_self
noncomputable def vp_22 : List vm_R := [(some (.inl (.negSucc 3, .ofNat 5)), va_h0)]
noncomputable def ve_22 : List vm_E := [([.inr (.inr (some 35)), .inl am_top], va_h0, 0, [0])]
noncomputable def q_22 : vm_Q := (30, [.inr (.inr (some 35)), .inl am_top], va_h0, vp_22)
noncomputable def vk_22 : List vm_U := []
noncomputable def vf_22 : List ((Nat → am_I) → vm_A) := [fun v => (0, [(0, .inr (.inr (some 35))), (1, .inl am_top)], [], (80, [])), fun v => (2, [(0, .inr (.inr (some 35))), (1, .inl am_top), (2, .inl (v 0))], [], (80, []))]
noncomputable def vd_22_0_0 : List (List Nat) := [[65536, 65537, 4295032833, 8590000129, 12884967425, 17179934721, 21474902017, 100663297]]
noncomputable def vd_22_0 : List (List (List Nat)) := [vd_22_0_0]
noncomputable def vd_22 : List (List (List (List Nat))) := [vd_22_0]
noncomputable def vt_22 : List (List am_I) := []
noncomputable def vc_22 : vm_C := (fun _ => vp_22, fun pc => [], [2], 8, vm_inst 8 7 vt_22 vf_22 vd_22)
theorem vx_22_0 : vm_chk bt_30 [] vk_22 15 vc_22 0 8 = true := by decide +kernel
theorem vy_22 : vm_ents 30 15 vc_22 ve_22 = true := by decide +kernel
theorem vw_22 : ∀ q ∈ vk_22, vm_wt 1 q := vm_wts vm_kn (by decide +kernel)
theorem v_22 : vm_at 2 q_22 := vm_ok (inl := []) (es := ve_22) bq_30 (by decide) vw_22 vy_22 (fun i => vm_hc vx_22_0 rfl (fun h => absurd h (Nat.not_lt_zero _))) _ List.mem_cons_self
noncomputable def vp_23 : List vm_R := [(some (.inl (.ofNat 0, .ofNat 1)), va_h0)]
noncomputable def ve_23 : List vm_E := [([.inr (.inr (some 35)), .inl am_top], va_h0, 0, [0])]
noncomputable def q_23 : vm_Q := (28, [.inr (.inr (some 35)), .inl am_top], va_h0, vp_23)
noncomputable def vk_23 : List vm_U := [(q_21, true, []), (q_22, true, [])]
noncomputable def vf_23 : List ((Nat → am_I) → vm_A) := [fun v => (0, [(0, .inr (.inr (some 35))), (1, .inl am_top)], [], (80, []))]
noncomputable def vd_23_0_0 : List (List Nat) := [[0]]
noncomputable def vd_23_0 : List (List (List Nat)) := [vd_23_0_0]
noncomputable def vd_23 : List (List (List (List Nat))) := [vd_23_0]
noncomputable def vt_23 : List (List am_I) := []
noncomputable def vc_23 : vm_C := (fun _ => vp_23, fun pc => [], [], 1, vm_inst 8 1 vt_23 vf_23 vd_23)
theorem vx_23_0 : vm_chk bt_28 [] vk_23 14 vc_23 0 1 = true := by decide +kernel
theorem vy_23 : vm_ents 28 14 vc_23 ve_23 = true := by decide +kernel
theorem vw_23 : ∀ q ∈ vk_23, vm_wt 2 q := vm_wts (vm_kc (vm_up v_21 rfl) (vm_kc (vm_up v_22 rfl) vm_kn)) (by decide +kernel)
theorem v_23 : vm_at 3 q_23 := vm_ok (inl := []) (es := ve_23) bq_28 (by decide) vw_23 vy_23 (fun i => vm_hc vx_23_0 rfl (fun h => absurd h (Nat.not_lt_zero _))) _ List.mem_cons_self
noncomputable def vp_24 : List vm_R := [(some (.inl (.ofNat 0, .ofNat 4)), va_h0)]
noncomputable def ve_24 : List vm_E := [([.inr (.inr (some 35)), .inl (.ofNat 0, .ofNat 24)], va_h0, 0, [0])]
noncomputable def q_24 : vm_Q := (59, [.inr (.inr (some 35)), .inl (.ofNat 0, .ofNat 24)], va_h0, vp_24)
noncomputable def vk_24 : List vm_U := []
noncomputable def vf_24 : List ((Nat → am_I) → vm_A) := [fun v => (0, [(0, .inr (.inr (some 35))), (1, .inl (.ofNat 0, .ofNat 24))], [], (80, []))]
noncomputable def vd_24_0_0 : List (List Nat) := [[0]]
noncomputable def vd_24_0 : List (List (List Nat)) := [vd_24_0_0]
noncomputable def vd_24 : List (List (List (List Nat))) := [vd_24_0]
noncomputable def vt_24 : List (List am_I) := []
noncomputable def vc_24 : vm_C := (fun _ => vp_24, fun pc => [], [], 1, vm_inst 8 1 vt_24 vf_24 vd_24)
theorem vx_24_0 : vm_chk bt_59 [] vk_24 11 vc_24 0 1 = true := by decide +kernel
theorem vy_24 : vm_ents 59 11 vc_24 ve_24 = true := by decide +kernel
theorem vw_24 : ∀ q ∈ vk_24, vm_wt 1 q := vm_wts vm_kn (by decide +kernel)
theorem v_24 : vm_at 2 q_24 := vm_ok (inl := []) (es := ve_24) bq_59 (by decide) vw_24 vy_24 (fun i => vm_hc vx_24_0 rfl (fun h => absurd h (Nat.not_lt_zero _))) _ List.mem_cons_self
noncomputable def vp_25 : List vm_R := [(some (.inl (.ofNat 0, .ofNat 12)), va_h0)]
noncomputable def ve_25 : List vm_E := [([.inr (.inr (some 35)), .inl (.ofNat 0, .ofNat 24)], va_h0, 0, [0])]
noncomputable def q_25 : vm_Q := (60, [.inr (.inr (some 35)), .inl (.ofNat 0, .ofNat 24)], va_h0, vp_25)
noncomputable def vk_25 : List vm_U := []
noncomputable def vf_25 : List ((Nat → am_I) → vm_A) := [fun v => (0, [(0, .inr (.inr (some 35))), (1, .inl (.ofNat 0, .ofNat 24))], [], (80, []))]
noncomputable def vd_25_0_0 : List (List Nat) := [[0]]
noncomputable def vd_25_0 : List (List (List Nat)) := [vd_25_0_0]
noncomputable def vd_25 : List (List (List (List Nat))) := [vd_25_0]
noncomputable def vt_25 : List (List am_I) := []
noncomputable def vc_25 : vm_C := (fun _ => vp_25, fun pc => [], [], 1, vm_inst 8 1 vt_25 vf_25 vd_25)
theorem vx_25_0 : vm_chk bt_60 [] vk_25 11 vc_25 0 1 = true := by decide +kernel
theorem vy_25 : vm_ents 60 11 vc_25 ve_25 = true := by decide +kernel
theorem vw_25 : ∀ q ∈ vk_25, vm_wt 1 q := vm_wts vm_kn (by decide +kernel)
theorem v_25 : vm_at 2 q_25 := vm_ok (inl := []) (es := ve_25) bq_60 (by decide) vw_25 vy_25 (fun i => vm_hc vx_25_0 rfl (fun h => absurd h (Nat.not_lt_zero _))) _ List.mem_cons_self
noncomputable def vp_26 : List vm_R := [(some (.inl (.ofNat 0, .ofNat 6)), va_h0)]
noncomputable def ve_26 : List vm_E := [([.inr (.inr (some 35))], va_h0, 0, [0])]
noncomputable def q_26 : vm_Q := (78, [.inr (.inr (some 35))], va_h0, vp_26)
noncomputable def vk_26 : List vm_U := []
noncomputable def vf_26 : List ((Nat → am_I) → vm_A) := [fun v => (0, [(0, .inr (.inr (some 35)))], [], (80, [])), fun v => (4, [(0, .inr (.inr (some 35))), (1, .inl (v 0)), (2, .inl (v 1))], [], (80, []))]
noncomputable def vd_26_0_0 : List (List Nat) := [[65536, 65537, 1129576464385, 2233383059457, 3337189654529, 4440996249601, 5544802844673, 25971130369]]
noncomputable def vd_26_0 : List (List (List Nat)) := [vd_26_0_0]
noncomputable def vd_26 : List (List (List (List Nat))) := [vd_26_0]
noncomputable def vt_26 : List (List am_I) := [[(.ofNat 0, .ofNat 1), (.ofNat 0, .ofNat 2), (.ofNat 0, .ofNat 3), (.ofNat 0, .ofNat 4), (.ofNat 0, .ofNat 5), (.ofNat 0, .ofNat 6)]]
noncomputable def vc_26 : vm_C := (fun _ => vp_26, fun pc => [], [4], 8, vm_inst 8 7 vt_26 vf_26 vd_26)
theorem vx_26_0 : vm_chk bt_78 [] vk_26 23 vc_26 0 8 = true := by decide +kernel
theorem vy_26 : vm_ents 78 23 vc_26 ve_26 = true := by decide +kernel
theorem vw_26 : ∀ q ∈ vk_26, vm_wt 1 q := vm_wts vm_kn (by decide +kernel)
theorem v_26 : vm_at 2 q_26 := vm_ok (inl := []) (es := ve_26) bq_78 (by decide) vw_26 vy_26 (fun i => vm_hc vx_26_0 rfl (fun h => absurd h (Nat.not_lt_zero _))) _ List.mem_cons_self
noncomputable def vp_27 : List vm_R := [(some (.inl (.ofNat 0, .ofNat 6)), va_h0)]
noncomputable def ve_27 : List vm_E := [([.inr (.inr (some 35))], va_h0, 0, [0])]
noncomputable def q_27 : vm_Q := (100, [.inr (.inr (some 35))], va_h0, vp_27)
noncomputable def vk_27 : List vm_U := []
noncomputable def vf_27 : List ((Nat → am_I) → vm_A) := [fun v => (0, [(0, .inr (.inr (some 35)))], [], (80, [])), fun v => (4, [(0, .inr (.inr (some 35))), (1, .inl (v 0)), (2, .inl (v 1))], [], (80, []))]
noncomputable def vd_27_0_0 : List (List Nat) := [[65536, 65537, 1129576464385, 2233383059457, 3337189654529, 4440996249601, 5544802844673, 25971130369]]
noncomputable def vd_27_0 : List (List (List Nat)) := [vd_27_0_0]
noncomputable def vd_27 : List (List (List (List Nat))) := [vd_27_0]
noncomputable def vt_27 : List (List am_I) := [[(.ofNat 0, .ofNat 1), (.ofNat 0, .ofNat 2), (.ofNat 0, .ofNat 3), (.ofNat 0, .ofNat 4), (.ofNat 0, .ofNat 5), (.ofNat 0, .ofNat 6)]]
noncomputable def vc_27 : vm_C := (fun _ => vp_27, fun pc => [], [4], 8, vm_inst 8 7 vt_27 vf_27 vd_27)
theorem vx_27_0 : vm_chk bt_100 [] vk_27 20 vc_27 0 8 = true := by decide +kernel
theorem vy_27 : vm_ents 100 20 vc_27 ve_27 = true := by decide +kernel
theorem vw_27 : ∀ q ∈ vk_27, vm_wt 1 q := vm_wts vm_kn (by decide +kernel)
theorem v_27 : vm_at 2 q_27 := vm_ok (inl := []) (es := ve_27) bq_100 (by decide) vw_27 vy_27 (fun i => vm_hc vx_27_0 rfl (fun h => absurd h (Nat.not_lt_zero _))) _ List.mem_cons_self
noncomputable def vp_28 : List vm_R := [(some (.inl (.ofNat 0, .ofNat 1)), va_h0)]
noncomputable def ve_28 : List vm_E := [([.inr (.inr (some 35))], va_h0, 0, [0])]
noncomputable def q_28 : vm_Q := (99, [.inr (.inr (some 35))], va_h0, vp_28)
noncomputable def vk_28 : List vm_U := [(q_26, true, []), (q_27, true, [])]
noncomputable def vf_28 : List ((Nat → am_I) → vm_A) := [fun v => (0, [(0, .inr (.inr (some 35)))], [], (80, []))]
noncomputable def vd_28_0_0 : List (List Nat) := [[0]]
noncomputable def vd_28_0 : List (List (List Nat)) := [vd_28_0_0]
noncomputable def vd_28 : List (List (List (List Nat))) := [vd_28_0]
noncomputable def vt_28 : List (List am_I) := []
noncomputable def vc_28 : vm_C := (fun _ => vp_28, fun pc => [], [], 1, vm_inst 8 1 vt_28 vf_28 vd_28)
theorem vx_28_0 : vm_chk bt_99 [] vk_28 10 vc_28 0 1 = true := by decide +kernel
theorem vy_28 : vm_ents 99 10 vc_28 ve_28 = true := by decide +kernel
theorem vw_28 : ∀ q ∈ vk_28, vm_wt 2 q := vm_wts (vm_kc (vm_up v_26 rfl) (vm_kc (vm_up v_27 rfl) vm_kn)) (by decide +kernel)
theorem v_28 : vm_at 3 q_28 := vm_ok (inl := []) (es := ve_28) bq_99 (by decide) vw_28 vy_28 (fun i => vm_hc vx_28_0 rfl (fun h => absurd h (Nat.not_lt_zero _))) _ List.mem_cons_self
noncomputable def vp_29 : List vm_R := [(some (.inl (.ofNat 0, .ofNat 3)), va_h0)]
noncomputable def ve_29 : List vm_E := [([.inr (.inr (some 35)), .inl am_top, .inl am_top], va_h0, 0, [0])]
noncomputable def q_29 : vm_Q := (95, [.inr (.inr (some 35)), .inl am_top, .inl am_top], va_h0, vp_29)
noncomputable def vk_29 : List vm_U := [(q_0, true, [])]
noncomputable def vf_29 : List ((Nat → am_I) → vm_A) := [fun v => (0, [(0, .inr (.inr (some 35))), (1, .inl am_top), (2, .inl am_top)], [], (80, []))]
noncomputable def vd_29_0_0 : List (List Nat) := [[0]]
noncomputable def vd_29_0 : List (List (List Nat)) := [vd_29_0_0]
noncomputable def vd_29 : List (List (List (List Nat))) := [vd_29_0]
noncomputable def vt_29 : List (List am_I) := []
noncomputable def vc_29 : vm_C := (fun _ => vp_29, fun pc => [], [], 1, vm_inst 8 1 vt_29 vf_29 vd_29)
theorem vx_29_0 : vm_chk bt_95 [] vk_29 8 vc_29 0 1 = true := by decide +kernel
theorem vy_29 : vm_ents 95 8 vc_29 ve_29 = true := by decide +kernel
theorem vw_29 : ∀ q ∈ vk_29, vm_wt 2 q := vm_wts (vm_kc (vm_up v_0 rfl) vm_kn) (by decide +kernel)
theorem v_29 : vm_at 3 q_29 := vm_ok (inl := []) (es := ve_29) bq_95 (by decide) vw_29 vy_29 (fun i => vm_hc vx_29_0 rfl (fun h => absurd h (Nat.not_lt_zero _))) _ List.mem_cons_self
noncomputable def vp_30 : List vm_R := [(some (.inl (.ofNat 0, .ofNat 6)), va_h0)]
noncomputable def ve_30 : List vm_E := [([.inr (.inr (some 35)), .inl am_top], va_h0, 0, [0])]
noncomputable def q_30 : vm_Q := (94, [.inr (.inr (some 35)), .inl am_top], va_h0, vp_30)
noncomputable def vk_30 : List vm_U := [(q_29, true, [])]
noncomputable def vf_30 : List ((Nat → am_I) → vm_A) := [fun v => (0, [(0, .inr (.inr (some 35))), (1, .inl am_top)], [], (80, [])), fun v => (4, [(0, .inr (.inr (some 35))), (1, .inl am_top), (2, .inl (v 0)), (3, .inl (v 1))], [], (80, []))]
noncomputable def vd_30_0_0 : List (List Nat) := [[65536, 65537, 1129576464385, 2233383059457, 3337189654529, 4440996249601, 5544802844673, 25971130369]]
noncomputable def vd_30_0 : List (List (List Nat)) := [vd_30_0_0]
noncomputable def vd_30 : List (List (List (List Nat))) := [vd_30_0]
noncomputable def vt_30 : List (List am_I) := [[(.ofNat 0, .ofNat 1), (.ofNat 0, .ofNat 2), (.ofNat 0, .ofNat 3), (.ofNat 0, .ofNat 4), (.ofNat 0, .ofNat 5), (.ofNat 0, .ofNat 6)]]
noncomputable def vc_30 : vm_C := (fun _ => vp_30, fun pc => [], [4], 8, vm_inst 8 7 vt_30 vf_30 vd_30)
theorem vx_30_0 : vm_chk bt_94 [] vk_30 23 vc_30 0 8 = true := by decide +kernel
theorem vy_30 : vm_ents 94 23 vc_30 ve_30 = true := by decide +kernel
theorem vw_30 : ∀ q ∈ vk_30, vm_wt 3 q := vm_wts (vm_kc (vm_up v_29 rfl) vm_kn) (by decide +kernel)
theorem v_30 : vm_at 4 q_30 := vm_ok (inl := []) (es := ve_30) bq_94 (by decide) vw_30 vy_30 (fun i => vm_hc vx_30_0 rfl (fun h => absurd h (Nat.not_lt_zero _))) _ List.mem_cons_self
noncomputable def vp_31 : List vm_R := [(some (.inr (.inl am_topl)), va_h0)]
noncomputable def ve_31 : List vm_E := [([.inr (.inr (some 35))], va_h0, 0, [0])]
noncomputable def q_31 : vm_Q := (116, [.inr (.inr (some 35))], va_h0, vp_31)
noncomputable def vk_31 : List vm_U := []
noncomputable def vf_31 : List ((Nat → am_I) → vm_A) := [fun v => (0, [(0, .inr (.inr (some 35)))], [], (80, [])), fun v => (4, [(0, .inr (.inr (some 35))), (1, .inr (.inl (v 0))), (3, .inl (v 1))], [], (80, []))]
noncomputable def vd_31_0_0 : List (List Nat) := [[65536, 4295032833, 1129576464385, 2233383059457, 3332894687233, 4432406315009, 5531917942785, 25904021505]]
noncomputable def vd_31_0 : List (List (List Nat)) := [vd_31_0_0]
noncomputable def vd_31 : List (List (List (List Nat))) := [vd_31_0]
noncomputable def vt_31 : List (List am_I) := [[(.ofNat 1, .ofNat 10), am_topl]]
noncomputable def vc_31 : vm_C := (fun _ => vp_31, fun pc => [], [4], 8, vm_inst 8 7 vt_31 vf_31 vd_31)
theorem vx_31_0 : vm_chk bt_116 [] vk_31 19 vc_31 0 8 = true := by decide +kernel
theorem vy_31 : vm_ents 116 19 vc_31 ve_31 = true := by decide +kernel
theorem vw_31 : ∀ q ∈ vk_31, vm_wt 1 q := vm_wts vm_kn (by decide +kernel)
theorem v_31 : vm_at 2 q_31 := vm_ok (inl := []) (es := ve_31) bq_116 (by decide) vw_31 vy_31 (fun i => vm_hc vx_31_0 rfl (fun h => absurd h (Nat.not_lt_zero _))) _ List.mem_cons_self
noncomputable def vp_32 : List vm_R := [(some (.inr (.inl am_topl)), va_h0)]
noncomputable def ve_32 : List vm_E := [([.inr (.inr (some 35))], va_h0, 0, [0])]
noncomputable def q_32 : vm_Q := (86, [.inr (.inr (some 35))], va_h0, vp_32)
noncomputable def vk_32 : List vm_U := []
noncomputable def vf_32 : List ((Nat → am_I) → vm_A) := [fun v => (0, [(0, .inr (.inr (some 35)))], [], (80, [])), fun v => (4, [(0, .inr (.inr (some 35))), (1, .inr (.inl (v 0))), (3, .inl (v 1))], [], (80, []))]
noncomputable def vd_32_0_0 : List (List Nat) := [[65536, 65537, 1129576464385, 2233383059457, 3332894687233, 4432406315009, 5531917942785, 25904021505]]
noncomputable def vd_32_0 : List (List (List Nat)) := [vd_32_0_0]
noncomputable def vd_32 : List (List (List (List Nat))) := [vd_32_0]
noncomputable def vt_32 : List (List am_I) := [[(.negSucc 2147483647, .ofNat 2147483743), am_topl]]
noncomputable def vc_32 : vm_C := (fun _ => vp_32, fun pc => [], [4], 8, vm_inst 8 7 vt_32 vf_32 vd_32)
theorem vx_32_0 : vm_chk bt_86 [] vk_32 27 vc_32 0 8 = true := by decide +kernel
theorem vy_32 : vm_ents 86 27 vc_32 ve_32 = true := by decide +kernel
theorem vw_32 : ∀ q ∈ vk_32, vm_wt 1 q := vm_wts vm_kn (by decide +kernel)
theorem v_32 : vm_at 2 q_32 := vm_ok (inl := []) (es := ve_32) bq_86 (by decide) vw_32 vy_32 (fun i => vm_hc vx_32_0 rfl (fun h => absurd h (Nat.not_lt_zero _))) _ List.mem_cons_self
noncomputable def vp_33 : List vm_R := [(some (.inl (.ofNat 0, .ofNat 6)), va_h0)]
noncomputable def ve_33 : List vm_E := [([.inr (.inr (some 35))], va_h0, 0, [0])]
noncomputable def q_33 : vm_Q := (144, [.inr (.inr (some 35))], va_h0, vp_33)
noncomputable def vk_33 : List vm_U := []
noncomputable def vf_33 : List ((Nat → am_I) → vm_A) := [fun v => (0, [(0, .inr (.inr (some 35)))], [], (80, [])), fun v => (4, [(0, .inr (.inr (some 35))), (1, .inl (v 0)), (2, .inl (v 1))], [], (80, []))]
noncomputable def vd_33_0_0 : List (List Nat) := [[65536, 65537, 1129576464385, 2233383059457, 3337189654529, 4440996249601, 5544802844673, 25971130369]]
noncomputable def vd_33_0 : List (List (List Nat)) := [vd_33_0_0]
noncomputable def vd_33 : List (List (List (List Nat))) := [vd_33_0]
noncomputable def vt_33 : List (List am_I) := [[(.ofNat 0, .ofNat 1), (.ofNat 0, .ofNat 2), (.ofNat 0, .ofNat 3), (.ofNat 0, .ofNat 4), (.ofNat 0, .ofNat 5), (.ofNat 0, .ofNat 6)]]
noncomputable def vc_33 : vm_C := (fun _ => vp_33, fun pc => [], [4], 8, vm_inst 8 7 vt_33 vf_33 vd_33)
theorem vx_33_0 : vm_chk bt_144 [] vk_33 19 vc_33 0 8 = true := by decide +kernel
theorem vy_33 : vm_ents 144 19 vc_33 ve_33 = true := by decide +kernel
theorem vw_33 : ∀ q ∈ vk_33, vm_wt 1 q := vm_wts vm_kn (by decide +kernel)
theorem v_33 : vm_at 2 q_33 := vm_ok (inl := []) (es := ve_33) bq_144 (by decide) vw_33 vy_33 (fun i => vm_hc vx_33_0 rfl (fun h => absurd h (Nat.not_lt_zero _))) _ List.mem_cons_self
noncomputable def vp_34 : List vm_R := [(some (.inl (.ofNat 0, .ofNat 1)), va_h0)]
noncomputable def ve_34 : List vm_E := [([.inr (.inr (some 35)), .inl (.ofNat 0, .ofNat 4), .inl am_top], va_h0, 0, [0])]
noncomputable def q_34 : vm_Q := (50, [.inr (.inr (some 35)), .inl (.ofNat 0, .ofNat 4), .inl am_top], va_h0, vp_34)
noncomputable def vk_34 : List vm_U := [(q_23, true, [])]
noncomputable def vf_34 : List ((Nat → am_I) → vm_A) := [fun v => (0, [(0, .inr (.inr (some 35))), (1, .inl (.ofNat 0, .ofNat 4)), (2, .inl am_top)], [], (80, []))]
noncomputable def vd_34_0_0 : List (List Nat) := [[0]]
noncomputable def vd_34_0 : List (List (List Nat)) := [vd_34_0_0]
noncomputable def vd_34 : List (List (List (List Nat))) := [vd_34_0]
noncomputable def vt_34 : List (List am_I) := []
noncomputable def vc_34 : vm_C := (fun _ => vp_34, fun pc => [], [], 1, vm_inst 8 1 vt_34 vf_34 vd_34)
theorem vx_34_0 : vm_chk bt_50 [] vk_34 15 vc_34 0 1 = true := by decide +kernel
theorem vy_34 : vm_ents 50 15 vc_34 ve_34 = true := by decide +kernel
theorem vw_34 : ∀ q ∈ vk_34, vm_wt 3 q := vm_wts (vm_kc (vm_up v_23 rfl) vm_kn) (by decide +kernel)
theorem v_34 : vm_at 4 q_34 := vm_ok (inl := []) (es := ve_34) bq_50 (by decide) vw_34 vy_34 (fun i => vm_hc vx_34_0 rfl (fun h => absurd h (Nat.not_lt_zero _))) _ List.mem_cons_self
noncomputable def vp_35 : List vm_R := [(some (.inl (.ofNat 0, .ofNat 16)), va_h0)]
noncomputable def ve_35 : List vm_E := [([.inr (.inr (some 35)), .inl (.ofNat 0, .ofNat 4), .inl (.ofNat 0, .ofNat 4)], va_h0, 0, [0])]
noncomputable def q_35 : vm_Q := (109, [.inr (.inr (some 35)), .inl (.ofNat 0, .ofNat 4), .inl (.ofNat 0, .ofNat 4)], va_h0, vp_35)
noncomputable def vk_35 : List vm_U := [(q_24, true, []), (q_25, true, []), (q_17, true, []), (q_18, true, [])]
noncomputable def vf_35 : List ((Nat → am_I) → vm_A) := [fun v => (0, [(0, .inr (.inr (some 35))), (1, .inl (.ofNat 0, .ofNat 4)), (2, .inl (.ofNat 0, .ofNat 4))], [], (80, []))]
noncomputable def vd_35_0_0 : List (List Nat) := [[0]]
noncomputable def vd_35_0 : List (List (List Nat)) := [vd_35_0_0]
noncomputable def vd_35 : List (List (List (List Nat))) := [vd_35_0]
noncomputable def vt_35 : List (List am_I) := []
noncomputable def vc_35 : vm_C := (fun _ => vp_35, fun pc => [], [], 1, vm_inst 8 1 vt_35 vf_35 vd_35)
theorem vx_35_0 : vm_chk bt_109 [] vk_35 32 vc_35 0 1 = true := by decide +kernel
theorem vy_35 : vm_ents 109 32 vc_35 ve_35 = true := by decide +kernel
theorem vw_35 : ∀ q ∈ vk_35, vm_wt 2 q := vm_wts (vm_kc (vm_up v_24 rfl) (vm_kc (vm_up v_25 rfl) (vm_kc (vm_up v_17 rfl) (vm_kc (vm_up v_18 rfl) vm_kn)))) (by decide +kernel)
theorem v_35 : vm_at 3 q_35 := vm_ok (inl := []) (es := ve_35) bq_109 (by decide) vw_35 vy_35 (fun i => vm_hc vx_35_0 rfl (fun h => absurd h (Nat.not_lt_zero _))) _ List.mem_cons_self
noncomputable def vp_36 : List vm_R := [(none, va_h0)]
noncomputable def ve_36 : List vm_E := [([.inr (.inr (some 35)), .inl am_top], va_h0, 0, [0])]
noncomputable def q_36 : vm_Q := (98, [.inr (.inr (some 35)), .inl am_top], va_h0, vp_36)
noncomputable def vk_36 : List vm_U := [(q_29, true, [])]
noncomputable def vf_36 : List ((Nat → am_I) → vm_A) := [fun v => (0, [(0, .inr (.inr (some 35))), (1, .inl am_top)], [], (80, [])), fun v => (2, [(0, .inr (.inr (some 35))), (1, .inl am_top), (2, .inl (v 0))], [], (80, []))]
noncomputable def vd_36_0_0 : List (List Nat) := [[65536, 65537, 4295032833, 8590000129, 12884967425, 17179934721, 21474902017, 100663297]]
noncomputable def vd_36_0 : List (List (List Nat)) := [vd_36_0_0]
noncomputable def vd_36 : List (List (List (List Nat))) := [vd_36_0]
noncomputable def vt_36 : List (List am_I) := []
noncomputable def vc_36 : vm_C := (fun _ => vp_36, fun pc => [], [2], 8, vm_inst 8 7 vt_36 vf_36 vd_36)
theorem vx_36_0 : vm_chk bt_98 [] vk_36 17 vc_36 0 8 = true := by decide +kernel
theorem vy_36 : vm_ents 98 17 vc_36 ve_36 = true := by decide +kernel
theorem vw_36 : ∀ q ∈ vk_36, vm_wt 3 q := vm_wts (vm_kc (vm_up v_29 rfl) vm_kn) (by decide +kernel)
theorem v_36 : vm_at 4 q_36 := vm_ok (inl := []) (es := ve_36) bq_98 (by decide) vw_36 vy_36 (fun i => vm_hc vx_36_0 rfl (fun h => absurd h (Nat.not_lt_zero _))) _ List.mem_cons_self
noncomputable def vp_37 : List vm_R := [(none, va_h0)]
noncomputable def ve_37 : List vm_E := [([.inr (.inr (some 35)), .inr (.inr (some 20))], va_h0, 0, [0])]
noncomputable def q_37 : vm_Q := (42, [.inr (.inr (some 35)), .inr (.inr (some 20))], va_h0, vp_37)
noncomputable def vk_37 : List vm_U := []
noncomputable def vf_37 : List ((Nat → am_I) → vm_A) := [fun v => (0, [(0, .inr (.inr (some 35))), (1, .inr (.inr (some 20)))], [], (80, []))]
noncomputable def vd_37_0_0 : List (List Nat) := [[0]]
noncomputable def vd_37_0 : List (List (List Nat)) := [vd_37_0_0]
noncomputable def vd_37 : List (List (List (List Nat))) := [vd_37_0]
noncomputable def vt_37 : List (List am_I) := []
noncomputable def vc_37 : vm_C := (fun _ => vp_37, fun pc => [], [], 1, vm_inst 8 1 vt_37 vf_37 vd_37)
theorem vx_37_0 : vm_chk bt_42 [] vk_37 23 vc_37 0 1 = true := by decide +kernel
theorem vy_37 : vm_ents 42 23 vc_37 ve_37 = true := by decide +kernel
theorem vw_37 : ∀ q ∈ vk_37, vm_wt 1 q := vm_wts vm_kn (by decide +kernel)
theorem v_37 : vm_at 2 q_37 := vm_ok (inl := []) (es := ve_37) bq_42 (by decide) vw_37 vy_37 (fun i => vm_hc vx_37_0 rfl (fun h => absurd h (Nat.not_lt_zero _))) _ List.mem_cons_self
noncomputable def va_c0 : am_C := .inr (.inr (.inr (4, [.inl (.ofNat 2, .ofNat 5), .inl (.ofNat 2, .ofNat 5), .inl am_top, .inl (.ofNat 0, .ofNat 5), .inl am_top, .inl am_top, .inl (.ofNat 0, .ofNat 8), .inr (.inr (some 36)), .inr (.inr (some 37)), .inr (.inr (some 38)), .inr (.inr (some 39)), .inr (.inr (some 40)), .inr (.inr (some 41)), .inr (.inr (some 42))])))
noncomputable def va_h1 : am_H := (80, [(27, va_c0)])
noncomputable def vp_38 : List vm_R := [(none, va_h1)]
noncomputable def ve_38 : List vm_E := [([.inr (.inr (some 35)), .inr (.inr (some 20))], va_h0, 0, [0])]
noncomputable def q_38 : vm_Q := (41, [.inr (.inr (some 35)), .inr (.inr (some 20))], va_h0, vp_38)
noncomputable def vk_38 : List vm_U := [(q_37, false, [(4, 27, 3)])]
noncomputable def vf_38 : List ((Nat → am_I) → vm_A) := [fun v => (0, [(0, .inr (.inr (some 35))), (1, .inr (.inr (some 20)))], [], (80, []))]
noncomputable def vd_38_0_0 : List (List Nat) := [[0]]
noncomputable def vd_38_0 : List (List (List Nat)) := [vd_38_0_0]
noncomputable def vd_38 : List (List (List (List Nat))) := [vd_38_0]
noncomputable def vt_38 : List (List am_I) := []
noncomputable def vc_38 : vm_C := (fun _ => vp_38, fun pc => [], [], 1, vm_inst 8 1 vt_38 vf_38 vd_38)
theorem vx_38_0 : vm_chk bt_41 [] vk_38 84 vc_38 0 1 = true := by decide +kernel
theorem vy_38 : vm_ents 41 84 vc_38 ve_38 = true := by decide +kernel
theorem vw_38 : ∀ q ∈ vk_38, vm_wt 2 q := vm_wts (vm_kc (vm_up v_37 rfl) vm_kn) (by decide +kernel)
theorem v_38 : vm_at 3 q_38 := vm_ok (inl := []) (es := ve_38) bq_41 (by decide) vw_38 vy_38 (fun i => vm_hc vx_38_0 rfl (fun h => absurd h (Nat.not_lt_zero _))) _ List.mem_cons_self
noncomputable def va_c1 : am_C := .inr (.inr (.inr (4, [.inl (.ofNat 2, .ofNat 5), .inl (.ofNat 2, .ofNat 5), .inl am_top, .inl (.ofNat 0, .ofNat 5), .inl am_top, .inl am_top, .inl (.ofNat 0, .ofNat 8), .inr (.inr (some 13)), .inr (.inr (some 14)), .inr (.inr (some 15)), .inr (.inr (some 16)), .inr (.inr (some 17)), .inr (.inr (some 18)), .inr (.inr (some 19))])))
noncomputable def va_h2 : am_H := (80, [(4, va_c1)])
noncomputable def vp_39 : List vm_R := [(none, va_h2)]
noncomputable def ve_39 : List vm_E := [([.inr (.inr (some 20)), .inr (.inr (some 12))], va_h2, 0, [0])]
noncomputable def q_39 : vm_Q := (42, [.inr (.inr (some 20)), .inr (.inr (some 12))], va_h2, vp_39)
noncomputable def vk_39 : List vm_U := []
noncomputable def vf_39 : List ((Nat → am_I) → vm_A) := [fun v => (0, [(0, .inr (.inr (some 20))), (1, .inr (.inr (some 12)))], [], (80, [(4, va_c1)]))]
noncomputable def vd_39_0_0 : List (List Nat) := [[0]]
noncomputable def vd_39_0 : List (List (List Nat)) := [vd_39_0_0]
noncomputable def vd_39 : List (List (List (List Nat))) := [vd_39_0]
noncomputable def vt_39 : List (List am_I) := []
noncomputable def vc_39 : vm_C := (fun _ => vp_39, fun pc => [], [], 1, vm_inst 8 1 vt_39 vf_39 vd_39)
theorem vx_39_0 : vm_chk bt_42 [] vk_39 23 vc_39 0 1 = true := by decide +kernel
theorem vy_39 : vm_ents 42 23 vc_39 ve_39 = true := by decide +kernel
theorem vw_39 : ∀ q ∈ vk_39, vm_wt 1 q := vm_wts vm_kn (by decide +kernel)
theorem v_39 : vm_at 2 q_39 := vm_ok (inl := []) (es := ve_39) bq_42 (by decide) vw_39 vy_39 (fun i => vm_hc vx_39_0 rfl (fun h => absurd h (Nat.not_lt_zero _))) _ List.mem_cons_self
noncomputable def vp_40 : List vm_R := [(none, va_h2)]
noncomputable def ve_40 : List vm_E := [([.inr (.inr (some 20)), .inr (.inr (some 12))], va_h2, 0, [0])]
noncomputable def q_40 : vm_Q := (41, [.inr (.inr (some 20)), .inr (.inr (some 12))], va_h2, vp_40)
noncomputable def vk_40 : List vm_U := [(q_39, false, [])]
noncomputable def vf_40 : List ((Nat → am_I) → vm_A) := [fun v => (0, [(0, .inr (.inr (some 20))), (1, .inr (.inr (some 12)))], [], (80, [(4, va_c1)]))]
noncomputable def vd_40_0_0 : List (List Nat) := [[0]]
noncomputable def vd_40_0 : List (List (List Nat)) := [vd_40_0_0]
noncomputable def vd_40 : List (List (List (List Nat))) := [vd_40_0]
noncomputable def vt_40 : List (List am_I) := []
noncomputable def vc_40 : vm_C := (fun _ => vp_40, fun pc => [], [], 1, vm_inst 8 1 vt_40 vf_40 vd_40)
theorem vx_40_0 : vm_chk bt_41 [] vk_40 84 vc_40 0 1 = true := by decide +kernel
theorem vy_40 : vm_ents 41 84 vc_40 ve_40 = true := by decide +kernel
theorem vw_40 : ∀ q ∈ vk_40, vm_wt 2 q := vm_wts (vm_kc (vm_up v_39 rfl) vm_kn) (by decide +kernel)
theorem v_40 : vm_at 3 q_40 := vm_ok (inl := []) (es := ve_40) bq_41 (by decide) vw_40 vy_40 (fun i => vm_hc vx_40_0 rfl (fun h => absurd h (Nat.not_lt_zero _))) _ List.mem_cons_self
noncomputable def vp_41 : List vm_R := [(none, va_h0)]
noncomputable def ve_41 : List vm_E := [([.inr (.inr (some 45)), .inr (.inr (some 20))], va_h0, 0, [0])]
noncomputable def q_41 : vm_Q := (42, [.inr (.inr (some 45)), .inr (.inr (some 20))], va_h0, vp_41)
noncomputable def vk_41 : List vm_U := []
noncomputable def vf_41 : List ((Nat → am_I) → vm_A) := [fun v => (0, [(0, .inr (.inr (some 45))), (1, .inr (.inr (some 20)))], [], (80, []))]
noncomputable def vd_41_0_0 : List (List Nat) := [[0]]
noncomputable def vd_41_0 : List (List (List Nat)) := [vd_41_0_0]
noncomputable def vd_41 : List (List (List (List Nat))) := [vd_41_0]
noncomputable def vt_41 : List (List am_I) := []
noncomputable def vc_41 : vm_C := (fun _ => vp_41, fun pc => [], [], 1, vm_inst 8 1 vt_41 vf_41 vd_41)
theorem vx_41_0 : vm_chk bt_42 [] vk_41 23 vc_41 0 1 = true := by decide +kernel
theorem vy_41 : vm_ents 42 23 vc_41 ve_41 = true := by decide +kernel
theorem vw_41 : ∀ q ∈ vk_41, vm_wt 1 q := vm_wts vm_kn (by decide +kernel)
theorem v_41 : vm_at 2 q_41 := vm_ok (inl := []) (es := ve_41) bq_42 (by decide) vw_41 vy_41 (fun i => vm_hc vx_41_0 rfl (fun h => absurd h (Nat.not_lt_zero _))) _ List.mem_cons_self
noncomputable def vp_42 : List vm_R := [(none, va_h0)]
noncomputable def ve_42 : List vm_E := [([.inr (.inr (some 45)), .inr (.inr (some 20))], va_h0, 0, [0])]
noncomputable def q_42 : vm_Q := (41, [.inr (.inr (some 45)), .inr (.inr (some 20))], va_h0, vp_42)
noncomputable def vk_42 : List vm_U := [(q_41, false, [])]
noncomputable def vf_42 : List ((Nat → am_I) → vm_A) := [fun v => (0, [(0, .inr (.inr (some 45))), (1, .inr (.inr (some 20)))], [], (80, []))]
noncomputable def vd_42_0_0 : List (List Nat) := [[0]]
noncomputable def vd_42_0 : List (List (List Nat)) := [vd_42_0_0]
noncomputable def vd_42 : List (List (List (List Nat))) := [vd_42_0]
noncomputable def vt_42 : List (List am_I) := []
noncomputable def vc_42 : vm_C := (fun _ => vp_42, fun pc => [], [], 1, vm_inst 8 1 vt_42 vf_42 vd_42)
theorem vx_42_0 : vm_chk bt_41 [] vk_42 84 vc_42 0 1 = true := by decide +kernel
theorem vy_42 : vm_ents 41 84 vc_42 ve_42 = true := by decide +kernel
theorem vw_42 : ∀ q ∈ vk_42, vm_wt 2 q := vm_wts (vm_kc (vm_up v_41 rfl) vm_kn) (by decide +kernel)
theorem v_42 : vm_at 3 q_42 := vm_ok (inl := []) (es := ve_42) bq_41 (by decide) vw_42 vy_42 (fun i => vm_hc vx_42_0 rfl (fun h => absurd h (Nat.not_lt_zero _))) _ List.mem_cons_self
noncomputable def vp_43 : List vm_R := [(none, va_h0)]
noncomputable def ve_43 : List vm_E := [([.inr (.inr (some 53)), .inr (.inr (some 20))], va_h0, 0, [0])]
noncomputable def q_43 : vm_Q := (42, [.inr (.inr (some 53)), .inr (.inr (some 20))], va_h0, vp_43)
noncomputable def vk_43 : List vm_U := []
noncomputable def vf_43 : List ((Nat → am_I) → vm_A) := [fun v => (0, [(0, .inr (.inr (some 53))), (1, .inr (.inr (some 20)))], [], (80, []))]
noncomputable def vd_43_0_0 : List (List Nat) := [[0]]
noncomputable def vd_43_0 : List (List (List Nat)) := [vd_43_0_0]
noncomputable def vd_43 : List (List (List (List Nat))) := [vd_43_0]
noncomputable def vt_43 : List (List am_I) := []
noncomputable def vc_43 : vm_C := (fun _ => vp_43, fun pc => [], [], 1, vm_inst 8 1 vt_43 vf_43 vd_43)
theorem vx_43_0 : vm_chk bt_42 [] vk_43 23 vc_43 0 1 = true := by decide +kernel
theorem vy_43 : vm_ents 42 23 vc_43 ve_43 = true := by decide +kernel
theorem vw_43 : ∀ q ∈ vk_43, vm_wt 1 q := vm_wts vm_kn (by decide +kernel)
theorem v_43 : vm_at 2 q_43 := vm_ok (inl := []) (es := ve_43) bq_42 (by decide) vw_43 vy_43 (fun i => vm_hc vx_43_0 rfl (fun h => absurd h (Nat.not_lt_zero _))) _ List.mem_cons_self
noncomputable def vp_44 : List vm_R := [(none, va_h0)]
noncomputable def ve_44 : List vm_E := [([.inr (.inr (some 53)), .inr (.inr (some 20))], va_h0, 0, [0])]
noncomputable def q_44 : vm_Q := (41, [.inr (.inr (some 53)), .inr (.inr (some 20))], va_h0, vp_44)
noncomputable def vk_44 : List vm_U := [(q_43, false, [])]
noncomputable def vf_44 : List ((Nat → am_I) → vm_A) := [fun v => (0, [(0, .inr (.inr (some 53))), (1, .inr (.inr (some 20)))], [], (80, []))]
noncomputable def vd_44_0_0 : List (List Nat) := [[0]]
noncomputable def vd_44_0 : List (List (List Nat)) := [vd_44_0_0]
noncomputable def vd_44 : List (List (List (List Nat))) := [vd_44_0]
noncomputable def vt_44 : List (List am_I) := []
noncomputable def vc_44 : vm_C := (fun _ => vp_44, fun pc => [], [], 1, vm_inst 8 1 vt_44 vf_44 vd_44)
theorem vx_44_0 : vm_chk bt_41 [] vk_44 84 vc_44 0 1 = true := by decide +kernel
theorem vy_44 : vm_ents 41 84 vc_44 ve_44 = true := by decide +kernel
theorem vw_44 : ∀ q ∈ vk_44, vm_wt 2 q := vm_wts (vm_kc (vm_up v_43 rfl) vm_kn) (by decide +kernel)
theorem v_44 : vm_at 3 q_44 := vm_ok (inl := []) (es := ve_44) bq_41 (by decide) vw_44 vy_44 (fun i => vm_hc vx_44_0 rfl (fun h => absurd h (Nat.not_lt_zero _))) _ List.mem_cons_self
noncomputable def vp_45 : List vm_R := [(none, va_h0)]
noncomputable def ve_45 : List vm_E := [([.inr (.inr (some 20)), .inr (.inr (some 45))], va_h0, 0, [0])]
noncomputable def q_45 : vm_Q := (42, [.inr (.inr (some 20)), .inr (.inr (some 45))], va_h0, vp_45)
noncomputable def vk_45 : List vm_U := []
noncomputable def vf_45 : List ((Nat → am_I) → vm_A) := [fun v => (0, [(0, .inr (.inr (some 20))), (1, .inr (.inr (some 45)))], [], (80, []))]
noncomputable def vd_45_0_0 : List (List Nat) := [[0]]
noncomputable def vd_45_0 : List (List (List Nat)) := [vd_45_0_0]
noncomputable def vd_45 : List (List (List (List Nat))) := [vd_45_0]
noncomputable def vt_45 : List (List am_I) := []
noncomputable def vc_45 : vm_C := (fun _ => vp_45, fun pc => [], [], 1, vm_inst 8 1 vt_45 vf_45 vd_45)
theorem vx_45_0 : vm_chk bt_42 [] vk_45 23 vc_45 0 1 = true := by decide +kernel
theorem vy_45 : vm_ents 42 23 vc_45 ve_45 = true := by decide +kernel
theorem vw_45 : ∀ q ∈ vk_45, vm_wt 1 q := vm_wts vm_kn (by decide +kernel)
theorem v_45 : vm_at 2 q_45 := vm_ok (inl := []) (es := ve_45) bq_42 (by decide) vw_45 vy_45 (fun i => vm_hc vx_45_0 rfl (fun h => absurd h (Nat.not_lt_zero _))) _ List.mem_cons_self
noncomputable def vp_46 : List vm_R := [(none, va_h0)]
noncomputable def ve_46 : List vm_E := [([.inr (.inr (some 20)), .inr (.inr (some 45))], va_h0, 0, [0])]
noncomputable def q_46 : vm_Q := (41, [.inr (.inr (some 20)), .inr (.inr (some 45))], va_h0, vp_46)
noncomputable def vk_46 : List vm_U := [(q_45, false, [])]
noncomputable def vf_46 : List ((Nat → am_I) → vm_A) := [fun v => (0, [(0, .inr (.inr (some 20))), (1, .inr (.inr (some 45)))], [], (80, []))]
noncomputable def vd_46_0_0 : List (List Nat) := [[0]]
noncomputable def vd_46_0 : List (List (List Nat)) := [vd_46_0_0]
noncomputable def vd_46 : List (List (List (List Nat))) := [vd_46_0]
noncomputable def vt_46 : List (List am_I) := []
noncomputable def vc_46 : vm_C := (fun _ => vp_46, fun pc => [], [], 1, vm_inst 8 1 vt_46 vf_46 vd_46)
theorem vx_46_0 : vm_chk bt_41 [] vk_46 84 vc_46 0 1 = true := by decide +kernel
theorem vy_46 : vm_ents 41 84 vc_46 ve_46 = true := by decide +kernel
theorem vw_46 : ∀ q ∈ vk_46, vm_wt 2 q := vm_wts (vm_kc (vm_up v_45 rfl) vm_kn) (by decide +kernel)
theorem v_46 : vm_at 3 q_46 := vm_ok (inl := []) (es := ve_46) bq_41 (by decide) vw_46 vy_46 (fun i => vm_hc vx_46_0 rfl (fun h => absurd h (Nat.not_lt_zero _))) _ List.mem_cons_self
noncomputable def vp_47 : List vm_R := [(none, va_h0)]
noncomputable def ve_47 : List vm_E := [([.inr (.inr (some 20)), .inr (.inr (some 53))], va_h0, 0, [0])]
noncomputable def q_47 : vm_Q := (42, [.inr (.inr (some 20)), .inr (.inr (some 53))], va_h0, vp_47)
noncomputable def vk_47 : List vm_U := []
noncomputable def vf_47 : List ((Nat → am_I) → vm_A) := [fun v => (0, [(0, .inr (.inr (some 20))), (1, .inr (.inr (some 53)))], [], (80, []))]
noncomputable def vd_47_0_0 : List (List Nat) := [[0]]
noncomputable def vd_47_0 : List (List (List Nat)) := [vd_47_0_0]
noncomputable def vd_47 : List (List (List (List Nat))) := [vd_47_0]
noncomputable def vt_47 : List (List am_I) := []
noncomputable def vc_47 : vm_C := (fun _ => vp_47, fun pc => [], [], 1, vm_inst 8 1 vt_47 vf_47 vd_47)
theorem vx_47_0 : vm_chk bt_42 [] vk_47 23 vc_47 0 1 = true := by decide +kernel
theorem vy_47 : vm_ents 42 23 vc_47 ve_47 = true := by decide +kernel
theorem vw_47 : ∀ q ∈ vk_47, vm_wt 1 q := vm_wts vm_kn (by decide +kernel)
theorem v_47 : vm_at 2 q_47 := vm_ok (inl := []) (es := ve_47) bq_42 (by decide) vw_47 vy_47 (fun i => vm_hc vx_47_0 rfl (fun h => absurd h (Nat.not_lt_zero _))) _ List.mem_cons_self
noncomputable def vp_48 : List vm_R := [(none, va_h0)]
noncomputable def ve_48 : List vm_E := [([.inr (.inr (some 20)), .inr (.inr (some 53))], va_h0, 0, [0])]
noncomputable def q_48 : vm_Q := (41, [.inr (.inr (some 20)), .inr (.inr (some 53))], va_h0, vp_48)
noncomputable def vk_48 : List vm_U := [(q_47, false, [])]
noncomputable def vf_48 : List ((Nat → am_I) → vm_A) := [fun v => (0, [(0, .inr (.inr (some 20))), (1, .inr (.inr (some 53)))], [], (80, []))]
noncomputable def vd_48_0_0 : List (List Nat) := [[0]]
noncomputable def vd_48_0 : List (List (List Nat)) := [vd_48_0_0]
noncomputable def vd_48 : List (List (List (List Nat))) := [vd_48_0]
noncomputable def vt_48 : List (List am_I) := []
noncomputable def vc_48 : vm_C := (fun _ => vp_48, fun pc => [], [], 1, vm_inst 8 1 vt_48 vf_48 vd_48)
theorem vx_48_0 : vm_chk bt_41 [] vk_48 84 vc_48 0 1 = true := by decide +kernel
theorem vy_48 : vm_ents 41 84 vc_48 ve_48 = true := by decide +kernel
theorem vw_48 : ∀ q ∈ vk_48, vm_wt 2 q := vm_wts (vm_kc (vm_up v_47 rfl) vm_kn) (by decide +kernel)
theorem v_48 : vm_at 3 q_48 := vm_ok (inl := []) (es := ve_48) bq_41 (by decide) vw_48 vy_48 (fun i => vm_hc vx_48_0 rfl (fun h => absurd h (Nat.not_lt_zero _))) _ List.mem_cons_self
noncomputable def va_c2 : am_C := .inr (.inr (.inr (4, [.inl (.ofNat 2, .ofNat 5), .inl (.ofNat 2, .ofNat 5), .inl am_top, .inl (.ofNat 1, .ofNat 5), .inl am_top, .inl am_top, .inl (.ofNat 0, .ofNat 8), .inr (.inr (some 21)), .inr (.inr (some 22)), .inr (.inr (some 23)), .inr (.inr (some 24)), .inr (.inr (some 25)), .inr (.inr (some 26)), .inr (.inr (some 27))])))
noncomputable def va_c3 : am_C := .inr (.inr (.inr (4, [.inl (.ofNat 2, .ofNat 5), .inl (.ofNat 2, .ofNat 5), .inl am_top, .inl (.ofNat 1, .ofNat 5), .inl am_top, .inl am_top, .inl (.ofNat 0, .ofNat 8), .inr (.inr (some 36)), .inr (.inr (some 37)), .inr (.inr (some 38)), .inr (.inr (some 39)), .inr (.inr (some 40)), .inr (.inr (some 41)), .inr (.inr (some 42))])))
noncomputable def va_h3 : am_H := (80, [(12, va_c2), (27, va_c3)])
noncomputable def va_h4 : am_H := (80, [(12, va_c2)])
noncomputable def vp_49 : List vm_R := [(none, va_h3)]
noncomputable def ve_49 : List vm_E := [([.inr (.inr (some 35)), .inr (.inr (some 20))], va_h4, 0, [0])]
noncomputable def q_49 : vm_Q := (41, [.inr (.inr (some 35)), .inr (.inr (some 20))], va_h4, vp_49)
noncomputable def vk_49 : List vm_U := [(q_37, false, [(4, 12, 3), (4, 27, 3)])]
noncomputable def vf_49 : List ((Nat → am_I) → vm_A) := [fun v => (0, [(0, .inr (.inr (some 35))), (1, .inr (.inr (some 20)))], [], (80, [(12, va_c2)]))]
noncomputable def vd_49_0_0 : List (List Nat) := [[0]]
noncomputable def vd_49_0 : List (List (List Nat)) := [vd_49_0_0]
noncomputable def vd_49 : List (List (List (List Nat))) := [vd_49_0]
noncomputable def vt_49 : List (List am_I) := []
noncomputable def vc_49 : vm_C := (fun _ => vp_49, fun pc => [], [], 1, vm_inst 8 1 vt_49 vf_49 vd_49)
theorem vx_49_0 : vm_chk bt_41 [] vk_49 84 vc_49 0 1 = true := by decide +kernel
theorem vy_49 : vm_ents 41 84 vc_49 ve_49 = true := by decide +kernel
theorem vw_49 : ∀ q ∈ vk_49, vm_wt 2 q := vm_wts (vm_kc (vm_up v_37 rfl) vm_kn) (by decide +kernel)
theorem v_49 : vm_at 3 q_49 := vm_ok (inl := []) (es := ve_49) bq_41 (by decide) vw_49 vy_49 (fun i => vm_hc vx_49_0 rfl (fun h => absurd h (Nat.not_lt_zero _))) _ List.mem_cons_self
noncomputable def vp_50 : List vm_R := [(none, va_h0)]
noncomputable def ve_50 : List vm_E := [([.inr (.inr (some 35)), .inl (.ofNat 0, .ofNat 24), .inl am_top, .inl am_top], va_h1, 0, [0])]
noncomputable def q_50 : vm_Q := (32, [.inr (.inr (some 35)), .inl (.ofNat 0, .ofNat 24), .inl am_top, .inl am_top], va_h1, vp_50)
noncomputable def vk_50 : List vm_U := []
noncomputable def vf_50 : List ((Nat → am_I) → vm_A) := [fun v => (0, [(0, .inr (.inr (some 35))), (1, .inl (.ofNat 0, .ofNat 24)), (2, .inl am_top), (3, .inl am_top)], [], (80, [(27, va_c0)]))]
noncomputable def vd_50_0_0 : List (List Nat) := [[0]]
noncomputable def vd_50_0 : List (List (List Nat)) := [vd_50_0_0]
noncomputable def vd_50 : List (List (List (List Nat))) := [vd_50_0]
noncomputable def vt_50 : List (List am_I) := []
noncomputable def vc_50 : vm_C := (fun _ => vp_50, fun pc => [], [], 1, vm_inst 8 1 vt_50 vf_50 vd_50)
theorem vx_50_0 : vm_chk bt_32 [] vk_50 33 vc_50 0 1 = true := by decide +kernel
theorem vy_50 : vm_ents 32 33 vc_50 ve_50 = true := by decide +kernel
theorem vw_50 : ∀ q ∈ vk_50, vm_wt 1 q := vm_wts vm_kn (by decide +kernel)
theorem v_50 : vm_at 2 q_50 := vm_ok (inl := []) (es := ve_50) bq_32 (by decide) vw_50 vy_50 (fun i => vm_hc vx_50_0 rfl (fun h => absurd h (Nat.not_lt_zero _))) _ List.mem_cons_self
noncomputable def vp_51 : List vm_R := [(none, va_h0)]
noncomputable def ve_51 : List vm_E := [([.inr (.inr (some 35)), .inl (.ofNat 0, .ofNat 4)], va_h1, 0, [0])]
noncomputable def q_51 : vm_Q := (103, [.inr (.inr (some 35)), .inl (.ofNat 0, .ofNat 4)], va_h1, vp_51)
noncomputable def vk_51 : List vm_U := []
noncomputable def vf_51 : List ((Nat → am_I) → vm_A) := [fun v => (0, [(0, .inr (.inr (some 35))), (1, .inl (.ofNat 0, .ofNat 4))], [], (80, [(27, va_c0)])), fun v => (2, [(0, .inr (.inr (some 35))), (1, .inl am_top), (2, .inl (v 0))], [], (80, [(27, va_c0)]))]
noncomputable def vd_51_0_0 : List (List Nat) := [[289077004400394240, 65537, 4295032833, 8590000129, 12884967425, 67108865]]
noncomputable def vd_51_0 : List (List (List Nat)) := [vd_51_0_0]
noncomputable def vd_51 : List (List (List (List Nat))) := [vd_51_0]
noncomputable def vt_51 : List (List am_I) := []
noncomputable def vc_51 : vm_C := (fun _ => vp_51, fun pc => (match Nat.beq pc 2 with
  | true => [(fun _ _ => some (.inl 2), fun _ _ => some [.ofNat 0, .ofNat 1, .ofNat 2, .ofNat 3, .ofNat 4, .ofNat 5, .ofNat 6])]
  | false => []), [2], 6, vm_inst 8 6 vt_51 vf_51 vd_51)
theorem vx_51_0 : vm_chk bt_103 [] vk_51 51 vc_51 0 5 = true := by decide +kernel
theorem vx_51_1 : vm_chk bt_103 [] vk_51 51 vc_51 5 1 = true := by decide +kernel
theorem vy_51 : vm_ents 103 51 vc_51 ve_51 = true := by decide +kernel
theorem vw_51 : ∀ q ∈ vk_51, vm_wt 1 q := vm_wts vm_kn (by decide +kernel)
theorem v_51 : vm_at 2 q_51 := vm_ok (inl := []) (es := ve_51) bq_103 (by decide) vw_51 vy_51 (fun i => vm_hc vx_51_1 rfl (vm_hc vx_51_0 rfl (fun h => absurd h (Nat.not_lt_zero _)))) _ List.mem_cons_self
noncomputable def vp_52 : List vm_R := [(some (.inl am_top), va_h0)]
noncomputable def ve_52 : List vm_E := [([.inl am_top], va_h0, 0, [0, 1])]
noncomputable def q_52 : vm_Q := (62, [.inl am_top], va_h0, vp_52)
noncomputable def vk_52 : List vm_U := []
noncomputable def vf_52 : List ((Nat → am_I) → vm_A) := [fun v => (0, [(0, .inl (v 0))], [], (80, []))]
noncomputable def vd_52_0_0 : List (List Nat) := [[16777216, 33554432]]
noncomputable def vd_52_0 : List (List (List Nat)) := [vd_52_0_0]
noncomputable def vd_52 : List (List (List (List Nat))) := [vd_52_0]
noncomputable def vt_52 : List (List am_I) := [[(.ofNat 0, .ofNat 2147483647), (.negSucc 2147483647, .negSucc 0)]]
noncomputable def vc_52 : vm_C := (fun _ => vp_52, fun pc => (match Nat.beq pc 0 with
  | true => [(fun _ _ => some (.inl 0), fun _ _ => some [.ofNat 0])]
  | false => []), [], 2, vm_inst 8 1 vt_52 vf_52 vd_52)
theorem vx_52_0 : vm_chk bt_62 [] vk_52 8 vc_52 0 2 = true := by decide +kernel
theorem vy_52 : vm_ents 62 8 vc_52 ve_52 = true := by decide +kernel
theorem vw_52 : ∀ q ∈ vk_52, vm_wt 1 q := vm_wts vm_kn (by decide +kernel)
theorem v_52 : vm_at 2 q_52 := vm_ok (inl := []) (es := ve_52) bq_62 (by decide) vw_52 vy_52 (fun i => vm_hc vx_52_0 rfl (fun h => absurd h (Nat.not_lt_zero _))) _ List.mem_cons_self
noncomputable def vp_53 : List vm_R := [(some (.inl (.ofNat 0, .ofNat 4)), va_h0)]
noncomputable def ve_53 : List vm_E := [([.inl am_top, .inl am_top], va_h0, 0, [0])]
noncomputable def q_53 : vm_Q := (64, [.inl am_top, .inl am_top], va_h0, vp_53)
noncomputable def vk_53 : List vm_U := [(q_52, true, [])]
noncomputable def vf_53 : List ((Nat → am_I) → vm_A) := [fun v => (0, [(0, .inl am_top), (1, .inl am_top)], [], (80, []))]
noncomputable def vd_53_0_0 : List (List Nat) := [[0]]
noncomputable def vd_53_0 : List (List (List Nat)) := [vd_53_0_0]
noncomputable def vd_53 : List (List (List (List Nat))) := [vd_53_0]
noncomputable def vt_53 : List (List am_I) := []
noncomputable def vc_53 : vm_C := (fun _ => vp_53, fun pc => [], [], 1, vm_inst 8 1 vt_53 vf_53 vd_53)
theorem vx_53_0 : vm_chk bt_64 [] vk_53 16 vc_53 0 1 = true := by decide +kernel
theorem vy_53 : vm_ents 64 16 vc_53 ve_53 = true := by decide +kernel
theorem vw_53 : ∀ q ∈ vk_53, vm_wt 2 q := vm_wts (vm_kc (vm_up v_52 rfl) vm_kn) (by decide +kernel)
theorem v_53 : vm_at 3 q_53 := vm_ok (inl := []) (es := ve_53) bq_64 (by decide) vw_53 vy_53 (fun i => vm_hc vx_53_0 rfl (fun h => absurd h (Nat.not_lt_zero _))) _ List.mem_cons_self
noncomputable def vp_54 : List vm_R := [(some (.inl (.negSucc 0, .ofNat 1)), va_h0)]
noncomputable def ve_54 : List vm_E := [([.inl (.negSucc 3, .ofNat 4), .inl (.ofNat 0, .ofNat 0)], va_h0, 0, [0])]
noncomputable def q_54 : vm_Q := (63, [.inl (.negSucc 3, .ofNat 4), .inl (.ofNat 0, .ofNat 0)], va_h0, vp_54)
noncomputable def vk_54 : List vm_U := []
noncomputable def vf_54 : List ((Nat → am_I) → vm_A) := [fun v => (0, [(0, .inl (.negSucc 3, .ofNat 4)), (1, .inl (.ofNat 0, .ofNat 0))], [], (80, []))]
noncomputable def vd_54_0_0 : List (List Nat) := [[0]]
noncomputable def vd_54_0 : List (List (List Nat)) := [vd_54_0_0]
noncomputable def vd_54 : List (List (List (List Nat))) := [vd_54_0]
noncomputable def vt_54 : List (List am_I) := []
noncomputable def vc_54 : vm_C := (fun _ => vp_54, fun pc => [], [], 1, vm_inst 8 1 vt_54 vf_54 vd_54)
theorem vx_54_0 : vm_chk bt_63 [] vk_54 11 vc_54 0 1 = true := by decide +kernel
theorem vy_54 : vm_ents 63 11 vc_54 ve_54 = true := by decide +kernel
theorem vw_54 : ∀ q ∈ vk_54, vm_wt 1 q := vm_wts vm_kn (by decide +kernel)
theorem v_54 : vm_at 2 q_54 := vm_ok (inl := []) (es := ve_54) bq_63 (by decide) vw_54 vy_54 (fun i => vm_hc vx_54_0 rfl (fun h => absurd h (Nat.not_lt_zero _))) _ List.mem_cons_self
noncomputable def vp_55 : List vm_R := [(some (.inl (.negSucc 0, .ofNat 1)), va_h0)]
noncomputable def ve_55 : List vm_E := [([.inl (.negSucc 11, .ofNat 12), .inl (.ofNat 0, .ofNat 0)], va_h0, 0, [0])]
noncomputable def q_55 : vm_Q := (63, [.inl (.negSucc 11, .ofNat 12), .inl (.ofNat 0, .ofNat 0)], va_h0, vp_55)
noncomputable def vk_55 : List vm_U := []
noncomputable def vf_55 : List ((Nat → am_I) → vm_A) := [fun v => (0, [(0, .inl (.negSucc 11, .ofNat 12)), (1, .inl (.ofNat 0, .ofNat 0))], [], (80, []))]
noncomputable def vd_55_0_0 : List (List Nat) := [[0]]
noncomputable def vd_55_0 : List (List (List Nat)) := [vd_55_0_0]
noncomputable def vd_55 : List (List (List (List Nat))) := [vd_55_0]
noncomputable def vt_55 : List (List am_I) := []
noncomputable def vc_55 : vm_C := (fun _ => vp_55, fun pc => [], [], 1, vm_inst 8 1 vt_55 vf_55 vd_55)
theorem vx_55_0 : vm_chk bt_63 [] vk_55 11 vc_55 0 1 = true := by decide +kernel
theorem vy_55 : vm_ents 63 11 vc_55 ve_55 = true := by decide +kernel
theorem vw_55 : ∀ q ∈ vk_55, vm_wt 1 q := vm_wts vm_kn (by decide +kernel)
theorem v_55 : vm_at 2 q_55 := vm_ok (inl := []) (es := ve_55) bq_63 (by decide) vw_55 vy_55 (fun i => vm_hc vx_55_0 rfl (fun h => absurd h (Nat.not_lt_zero _))) _ List.mem_cons_self
noncomputable def vp_56 : List vm_R := [(none, va_h0)]
noncomputable def ve_56 : List vm_E := [([.inr (.inr (some 28)), .inr (.inr (some 20)), .inl (.ofNat 0, .ofNat 5), .inl (.ofNat 0, .ofNat 5)], va_h0, 0, [0])]
noncomputable def q_56 : vm_Q := (61, [.inr (.inr (some 28)), .inr (.inr (some 20)), .inl (.ofNat 0, .ofNat 5), .inl (.ofNat 0, .ofNat 5)], va_h0, vp_56)
noncomputable def vk_56 : List vm_U := [(q_17, true, []), (q_18, true, []), (q_54, true, []), (q_55, true, [])]
noncomputable def vf_56 : List ((Nat → am_I) → vm_A) := [fun v => (0, [(0, .inr (.inr (some 28))), (1, .inr (.inr (some 20))), (2, .inl (.ofNat 0, .ofNat 5)), (3, .inl (.ofNat 0, .ofNat 5))], [], (80, [])), fun v => (43, [(0, .inr (.inr (some 28))), (1, .inr (.inr (some 20))), (2, .inl (.ofNat 0, .ofNat 5)), (3, .inl (.ofNat 0, .ofNat 5)), (4, .inl (.negSucc 3, .ofNat 4)), (5, .inl (.negSucc 11, .ofNat 12)), (6, .inl (v 0))], [], (80, []))]
noncomputable def vd_56_0_0 : List (List Nat) := [[4295098368, 50331649, 67108865]]
noncomputable def vd_56_0 : List (List (List Nat)) := [vd_56_0_0]
noncomputable def vd_56 : List (List (List (List Nat))) := [vd_56_0]
noncomputable def vt_56 : List (List am_I) := [[(.ofNat 5, .ofNat 16), (.ofNat 0, .ofNat 4)]]
noncomputable def vc_56 : vm_C := (fun _ => vp_56, fun pc => (match Nat.beq pc 43 with
  | true => [(fun _ _ => some (.inl 6), fun _ _ => some [.ofNat 5])]
  | false => []), [43], 3, vm_inst 8 3 vt_56 vf_56 vd_56)
theorem vx_56_0 : vm_chk bt_61 [] vk_56 66 vc_56 0 3 = true := by decide +kernel
theorem vy_56 : vm_ents 61 66 vc_56 ve_56 = true := by decide +kernel
theorem vw_56 : ∀ q ∈ vk_56, vm_wt 2 q := vm_wts (vm_kc (vm_up v_17 rfl) (vm_kc (vm_up v_18 rfl) (vm_kc (vm_up v_54 rfl) (vm_kc (vm_up v_55 rfl) vm_kn)))) (by decide +kernel)
theorem v_56 : vm_at 3 q_56 := vm_ok (inl := []) (es := ve_56) bq_61 (by decide) vw_56 vy_56 (fun i => vm_hc vx_56_0 rfl (fun h => absurd h (Nat.not_lt_zero _))) _ List.mem_cons_self
noncomputable def vp_57 : List vm_R := [(none, va_h0)]
noncomputable def ve_57 : List vm_E := [([.inr (.inr (some 28)), .inr (.inr (some 20))], va_h0, 0, [0])]
noncomputable def q_57 : vm_Q := (58, [.inr (.inr (some 28)), .inr (.inr (some 20))], va_h0, vp_57)
noncomputable def vk_57 : List vm_U := [(q_6, true, []), (q_7, true, []), (q_56, false, []), (q_53, true, [])]
noncomputable def vf_57 : List ((Nat → am_I) → vm_A) := [fun v => (0, [(0, .inr (.inr (some 28))), (1, .inr (.inr (some 20)))], [], (80, [])), fun v => (2, [(0, .inr (.inr (some 28))), (1, .inr (.inr (some 20))), (2, .inl (v 0))], [], (80, [])), fun v => (64, [(0, .inr (.inr (some 28))), (1, .inr (.inr (some 20))), (2, .inl (.ofNat 0, .ofNat 0))], [], (80, [])), fun v => (123, [(0, .inr (.inr (some 28))), (1, .inr (.inr (some 20))), (2, .inl (v 0))], [], (80, [])), fun v => (76, [(0, .inr (.inr (some 28))), (1, .inr (.inr (some 20))), (2, .inl (v 0)), (3, .inl (v 1))], [], (80, [])), fun v => (64, [(0, .inr (.inr (some 28))), (1, .inr (.inr (some 20))), (2, .inl (v 0)), (3, .inl am_top)], [], (80, [])), fun v => (123, [(0, .inr (.inr (some 28))), (1, .inr (.inr (some 20))), (2, .inl (v 0)), (3, .inl am_top)], [], (80, []))]
noncomputable def vd_57_0_0 : List (List Nat) := [[65536, 21474967553, 1116691628033, 2211908288513, 3307124948993, 4402341609473, 21474902017, 25769934850], [65539, 4295032835, 8590000131, 12884967427, 17179934723, 83886083, 281492156710916, 562962838454276], [844433520197636, 1125904201940996, 5497558204420, 1159641300997, 564062350082052, 845533031825412, 1127003713568772, 5501853171716], [2237678092293, 846632543453188, 1128103225196548, 5506148139012, 3320009850885, 1129202736824324, 5510443106308, 4406636576773], [5514738073604, 21474902021, 65542, 4295032838, 8590000134, 12884967430, 17179934726, 83886086]]
noncomputable def vd_57_0 : List (List (List Nat)) := [vd_57_0_0]
noncomputable def vd_57 : List (List (List (List Nat))) := [vd_57_0]
noncomputable def vt_57 : List (List am_I) := []
noncomputable def vc_57 : vm_C := (fun _ => vp_57, fun pc => [], [2, 64, 76, 123], 40, vm_inst 8 15 vt_57 vf_57 vd_57)
theorem vx_57_0 : vm_chk bt_58 [] vk_57 39 vc_57 0 7 = true := by decide +kernel
theorem vx_57_1 : vm_chk bt_58 [] vk_57 39 vc_57 7 8 = true := by decide +kernel
theorem vx_57_2 : vm_chk bt_58 [] vk_57 39 vc_57 15 9 = true := by decide +kernel
theorem vx_57_3 : vm_chk bt_58 [] vk_57 39 vc_57 24 11 = true := by decide +kernel
theorem vx_57_4 : vm_chk bt_58 [] vk_57 39 vc_57 35 5 = true := by decide +kernel
theorem vy_57 : vm_ents 58 39 vc_57 ve_57 = true := by decide +kernel
theorem vw_57 : ∀ q ∈ vk_57, vm_wt 3 q := vm_wts (vm_kc (vm_up v_6 rfl) (vm_kc (vm_up v_7 rfl) (vm_kc (vm_up v_56 rfl) (vm_kc (vm_up v_53 rfl) vm_kn)))) (by decide +kernel)
theorem v_57 : vm_at 4 q_57 := vm_ok (inl := []) (es := ve_57) bq_58 (by decide) vw_57 vy_57 (fun i => vm_hc vx_57_4 rfl (vm_hc vx_57_3 rfl (vm_hc vx_57_2 rfl (vm_hc vx_57_1 rfl (vm_hc vx_57_0 rfl (fun h => absurd h (Nat.not_lt_zero _))))))) _ List.mem_cons_self
noncomputable def vp_58 : List vm_R := [(none, va_h0)]
noncomputable def ve_58 : List vm_E := [([.inr (.inr (some 28)), .inr (.inr (some 20))], va_h0, 0, [0])]
noncomputable def q_58 : vm_Q := (69, [.inr (.inr (some 28)), .inr (.inr (some 20))], va_h0, vp_58)
noncomputable def vk_58 : List vm_U := []
noncomputable def vf_58 : List ((Nat → am_I) → vm_A) := [fun v => (0, [(0, .inr (.inr (some 28))), (1, .inr (.inr (some 20)))], [], (80, [])), fun v => (7, [(0, .inr (.inr (some 28))), (1, .inr (.inr (some 20))), (2, .inl am_top), (3, .inl (v 0))], [], (80, [])), fun v => (39, [(0, .inr (.inr (some 28))), (1, .inr (.inr (some 20))), (2, .inl am_top), (3, .inl (.ofNat 0, .ofNat 0))], [], (80, [])), fun v => (122, [(0, .inr (.inr (some 28))), (1, .inr (.inr (some 20))), (2, .inl am_top), (3, .inl (.ofNat 0, .ofNat 0)), (4, .inl (v 0)), (5, .inl (v 1))], [], (80, [(12, .inr (.inr (.inr (4, [.inl (v 2), .inl (.ofNat 2, .ofNat 5), .inl am_top, .inl (.ofNat 0, .ofNat 5), .inl am_top, .inl am_top, .inl (.ofNat 0, .ofNat 8), .inr (.inr (some 21)), .inr (.inr (some 22)), .inr (.inr (some 23)), .inr (.inr (some 24)), .inr (.inr (some 25)), .inr (.inr (some 26)), .inr (.inr (some 27))]))))])), fun v => (39, [(0, .inr (.inr (some 28))), (1, .inr (.inr (some 20))), (2, .inl am_top), (3, .inl (v 0)), (4, .inl am_top), (5, .inl am_top), (6, .inl am_top), (7, .inl am_top)], [], (80, [])), fun v => (122, [(0, .inr (.inr (some 28))), (1, .inr (.inr (some 20))), (2, .inl am_top), (3, .inl (v 0)), (4, .inl (v 1)), (5, .inl (v 2)), (6, .inl am_top), (7, .inl am_top)], [], (80, [(12, .inr (.inr (.inr (4, [.inl (v 3), .inl (.ofNat 2, .ofNat 5), .inl am_top, .inl (.ofNat 0, .ofNat 5), .inl am_top, .inl am_top, .inl (.ofNat 0, .ofNat 8), .inr (.inr (some 21)), .inr (.inr (some 22)), .inr (.inr (some 23)), .inr (.inr (some 24)), .inr (.inr (some 25)), .inr (.inr (some 26)), .inr (.inr (some 27))]))))]))]
noncomputable def vd_58_0_0 : List (List Nat) := [[65536, 21474967553, 1116691628033, 2211908288513, 3307124948993, 4402341609473, 21474902017, 4218909026033894870078659028420278730846903578299645552236675871478853737717774895122552072108342092861951928963012160946282535814896504535519311426003974503094884742252442334568503515426741411520998264537430445648352238618215437032754695146081208203797548100200091131803681850948303627191389012139576699678223018229717114246719943086571106864178852852639577257018156161116444931870700291984133964043271597981698], [1595020511608835, 1313545518120963, 1032070524633091, 750595531145219, 1595029034434563, 1313554040946691, 1032079047458819, 750604053970947], [1597219400646659, 1315744407158787, 1034269413670915, 752794420183043, 1598318845165571, 1316843851677699, 1035368858189827, 753893864701955], [1596119754801155, 1314644761313283, 1033169767825411, 751694774337539, 1597227789254659, 1315752795766787, 1034277802278915, 752802808791043], [1598327233773571, 1316852240285699, 1035377246797827, 753902253309955, 1596128143409155, 1314653149921283, 1033178156433411, 751703162945539], [1599418021249027, 1317943027761155, 1036468034273283, 754993040785411, 1600517465767939, 1319042472280067, 1037567478792195, 756092485304323], [1599426476965891, 1317951483478019, 1036476489990147, 755001496502275, 1600525921484803, 1319050927996931, 1037575934509059, 756100941021187], [1594315331665923, 1312840338178051, 1031365344690179, 749890351202307, 1594310969589763, 1312835976101891, 1031360982614019, 749885989126147]]
noncomputable def vd_58_0_1 : List (List Nat) := [[1594306607513603, 1312831614025731, 1031356620537859, 749881627049987, 1594302245437443, 1312827251949571, 1031352258461699, 749877264973827], [1594297883361283, 1312822889873411, 1031347896385539, 749872902897667, 1596514019377155, 1315039025889283, 1033564032401411, 752089038913539], [1597613463896067, 1316138470408195, 1034663476920323, 753188483432451, 1595414373531651, 1313939380043779, 1032464386555907, 750989393068035], [1596509523083267, 1315034529595395, 1033559536107523, 752084542619651, 1597608967602179, 1316133974114307, 1034658980626435, 753183987138563], [1595409877237763, 1313934883749891, 1032459890262019, 750984896774147, 1596505026789379, 1315030033301507, 1033555039813635, 752080046325763], [1597604471308291, 1316129477820419, 1034654484332547, 753179490844675, 1595405380943875, 1313930387456003, 1032455393968131, 750980400480259], [1596500530495491, 1315025537007619, 1033550543519747, 752075550031875, 1597599975014403, 1316124981526531, 1034649988038659, 753174994550787], [1595400884649987, 1313925891162115, 1032450897674243, 750975904186371, 1596496034201603, 1315021040713731, 1033546047225859, 752071053737987]]
noncomputable def vd_58_0_2 : List (List Nat) := [[1597595478720515, 1316120485232643, 1034645491744771, 753170498256899, 1595396388356099, 1313921394868227, 1032446401380355, 750971407892483], [1598712035999747, 1317237042511875, 1035762049024003, 754287055536131, 1599811480518659, 1318336487030787, 1036861493542915, 755386500055043], [1598707606814723, 1317232613326851, 1035757619838979, 754282626351107, 1599807051333635, 1318332057845763, 1036857064357891, 755382070870019], [1598703177629699, 1317228184141827, 1035753190653955, 754278197166083, 1599802622148611, 1318327628660739, 1036852635172867, 755377641684995], [1598698748444675, 1317223754956803, 1035748761468931, 754273767981059, 1599798192963587, 1318323199475715, 1036848205987843, 755373212499971], [1598694319259651, 1317219325771779, 1035744332283907, 754269338796035, 1599793763778563, 1318318770290691, 1036843776802819, 755368783314947], [10661107021005105041196092884399722288833938736550031895327739382255494360841443703955539778496773066663107860317978011160729790449586651243722937799193633578422352344285249558063641151407951731926618031387571689502478302777276558417661562792942249051344409954781880673545519450936877818392780861528454562175321735127785763361245687478931764008722106345568576673174590605428788340073130464966200256827268755095556, 408324540792373253, 336266946737668101, 264209352682962949, 192151758628257797, 408326739748519941, 336269145693814789, 264211551639109637], [192153957584404485, 408887490611576837, 336829896556871685, 264772302502166533, 192714708447461381, 409168965521178629, 337111371466473477, 265053777411768325]]
noncomputable def vd_58_0_3 : List (List Nat) := [[192996183357063173, 408606015500648453, 336548421445943301, 264490827391238149, 192433233336532997, 408889689433505797, 336832095378800645, 264774501324095493], [192716907269390341, 409171164343107589, 337113570288402437, 265055976233697285, 192998382178992133, 408608214322577413, 336550620267872261, 264493026213167109], [192435432158461957, 409450440162344965, 337392846107639813, 265335252052934661, 193277657998229509, 409731915071946757, 337674321017241605, 265616726962536453], [193559132907831301, 409452639051382789, 337395044996677637, 265337450941972485, 193279856887267333, 409734113960984581, 337676519906279429, 265618925851574277], [193561331796869125, 408144220080111621, 336086626025406469, 264029031970701317, 191971437915996165, 408143120501374981, 336085526446669829, 264027932391964677], [191970338337259525, 408142020922638341, 336084426867933189, 264026832813228037, 191969238758522885, 408140921343901701, 336083327289196549, 264025733234491397], [191968139179786245, 408139821765165061, 336082227710459909, 264024633655754757, 191967039601049605, 408707169697988613, 336649575643283461, 264591981588578309], [192534387533873157, 408988644607590405, 336931050552885253, 264873456498180101, 192815862443474949, 408425694587060229, 336368100532355077, 264310506477649925]]
noncomputable def vd_58_0_4 : List (List Nat) := [[192252912422944773, 408706069985034245, 336648475930329093, 264590881875623941, 192533287820918789, 408987544894636037, 336929950839930885, 264872356785225733], [192814762730520581, 408424594874105861, 336367000819400709, 264309406764695557, 192251812709990405, 408704970272079877, 336647376217374725, 264589782162669573], [192532188107964421, 408986445181681669, 336928851126976517, 264871257072271365, 192813663017566213, 408423495161151493, 336365901106446341, 264308307051741189], [192250712997036037, 408703870559125509, 336646276504420357, 264588682449715205, 192531088395010053, 408985345468727301, 336927751414022149, 264870157359316997], [192812563304611845, 408422395448197125, 336364801393491973, 264307207338786821, 192249613284081669, 408702770846171141, 336645176791465989, 264587582736760837], [192529988682055685, 408984245755772933, 336926651701067781, 264869057646362629, 192811463591657477, 408421295735242757, 336363701680537605, 264306107625832453], [192248513571127301, 409270118644776965, 337212524590071813, 265154930535366661, 193097336480661509, 409551593554378757, 337493999499673605, 265436405444968453], [193378811390263301, 409269018998931461, 337211424944226309, 265153830889521157, 193096236834816005, 409550493908533253, 337492899853828101, 265435305799122949]]
noncomputable def vd_58_0_5 : List (List Nat) := [[193377711744417797, 409267919353085957, 337210325298380805, 265152731243675653, 193095137188970501, 409549394262687749, 337491800207982597, 265434206153277445], [193376612098572293, 409266819707240453, 337209225652535301, 265151631597830149, 193094037543124997, 409548294616842245, 337490700562137093, 265433106507431941], [193375512452726789, 409265720061394949, 337208126006689797, 265150531951984645, 193092937897279493, 409547194970996741, 337489600916291589, 265432006861586437], [193374412806881285, 17103305015976315212313526740379165846820973894800418238418802893032134983965112512788527484885204040464263791672943861375177045084276797951926564172383292653749819946318056781558778787389162052332237798237712933356604366936337679802568430439803289898891271809363670215287357050925452009594172710917332424672420452025854412475771431871292421153265359838497576089331025049741131748275560637948266549611265912209412, 408324545087340549, 336266951032635397, 264209356977930245, 192151762923225093, 408326744043487237, 336269149988782085], [264211555934076933, 192153961879371781, 408887494906544133, 336829900851838981, 264772306797133829, 192714712742428677, 409168969816145925, 337111375761440773], [265053781706735621, 192996187652030469, 408606019795615749, 336548425740910597, 264490831686205445, 192433237631500293, 408889693728473093, 336832099673767941], [264774505619062789, 192716911564357637, 409171168638074885, 337113574583369733, 265055980528664581, 192998386473959429, 408608218617544709, 336550624562839557], [264493030508134405, 192435436453429253, 409450444457312261, 337392850402607109, 265335256347901957, 193277662293196805, 409731919366914053, 337674325312208901]]
noncomputable def vd_58_0_6 : List (List Nat) := [[265616731257503749, 193559137202798597, 409452643346350085, 337395049291644933, 265337455236939781, 193279861182234629, 409734118255951877, 337676524201246725], [265618930146541573, 193561336091836421, 408144224375078917, 336086630320373765, 264029036265668613, 191971442210963461, 408143124796342277, 336085530741637125], [264027936686931973, 191970342632226821, 408142025217605637, 336084431162900485, 264026837108195333, 191969243053490181, 408140925638868997, 336083331584163845], [264025737529458693, 191968143474753541, 408139826060132357, 336082232005427205, 264024637950722053, 191967043896016901, 408707173992955909, 336649579938250757], [264591985883545605, 192534391828840453, 408988648902557701, 336931054847852549, 264873460793147397, 192815866738442245, 408425698882027525, 336368104827322373], [264310510772617221, 192252916717912069, 408706074280001541, 336648480225296389, 264590886170591237, 192533292115886085, 408987549189603333, 336929955134898181], [264872361080193029, 192814767025487877, 408424599169073157, 336367005114368005, 264309411059662853, 192251817004957701, 408704974567047173, 336647380512342021], [264589786457636869, 192532192402931717, 408986449476648965, 336928855421943813, 264871261367238661, 192813667312533509, 408423499456118789, 336365905401413637]]
noncomputable def vd_58_0_7 : List (List Nat) := [[264308311346708485, 192250717292003333, 408703874854092805, 336646280799387653, 264588686744682501, 192531092689977349, 408985349763694597, 336927755708989445], [264870161654284293, 192812567599579141, 408422399743164421, 336364805688459269, 264307211633754117, 192249617579048965, 408702775141138437, 336645181086433285], [264587587031728133, 192529992977022981, 408984250050740229, 336926655996035077, 264869061941329925, 192811467886624773, 408421300030210053, 336363705975504901], [264306111920799749, 192248517866094597, 409270122939744261, 337212528885039109, 265154934830333957, 193097340775628805, 409551597849346053, 337494003794640901], [265436409739935749, 193378815685230597, 409269023293898757, 337211429239193605, 265153835184488453, 193096241129783301, 409550498203500549, 337492904148795397], [265435310094090245, 193377716039385093, 409267923648053253, 337210329593348101, 265152735538642949, 193095141483937797, 409549398557655045, 337491804502949893], [265434210448244741, 193376616393539589, 409266824002207749, 337209229947502597, 265151635892797445, 193094041838092293, 409548298911809541, 337490704857104389], [265433110802399237, 193375516747694085, 409265724356362245, 337208130301657093, 265150536246951941, 193092942192246789, 409547199265964037, 337489605211258885]]
noncomputable def vd_58_0 : List (List (List Nat)) := [vd_58_0_0, vd_58_0_1, vd_58_0_2, vd_58_0_3, vd_58_0_4, vd_58_0_5, vd_58_0_6, vd_58_0_7]
noncomputable def vd_58_1_0 : List (List Nat) := [[265432011156553733, 193374417101848581, 23545503010947525383430960596358609404808009053050804581509866403808775607088781321621515191273635014265419723027909711589624299718966944660130190545572951729077287548350864005053916423370372372737857565087854177210730431095398801187475298086664330746438133663945459757029194650914026200795564560306210287169519168923923061590297176263653078297808613331426575505487459494053475156477990810930332842395263069323268, 408324549382307845, 336266955327602693, 264209361272897541, 192151767218192389, 408326748338454533], [336269154283749381, 264211560229044229, 192153966174339077, 408887499201511429, 336829905146806277, 264772311092101125, 192714717037395973, 409168974111113221], [337111380056408069, 265053786001702917, 192996191946997765, 408606024090583045, 336548430035877893, 264490835981172741, 192433241926467589, 408889698023440389], [336832103968735237, 264774509914030085, 192716915859324933, 409171172933042181, 337113578878337029, 265055984823631877, 192998390768926725, 408608222912512005], [336550628857806853, 264493034803101701, 192435440748396549, 409450448752279557, 337392854697574405, 265335260642869253, 193277666588164101, 409731923661881349], [337674329607176197, 265616735552471045, 193559141497765893, 409452647641317381, 337395053586612229, 265337459531907077, 193279865477201925, 409734122550919173], [337676528496214021, 265618934441508869, 193561340386803717, 408144228670046213, 336086634615341061, 264029040560635909, 191971446505930757, 408143129091309573], [336085535036604421, 264027940981899269, 191970346927194117, 408142029512572933, 336084435457867781, 264026841403162629, 191969247348457477, 408140929933836293]]
noncomputable def vd_58_1_1 : List (List Nat) := [[336083335879131141, 264025741824425989, 191968147769720837, 408139830355099653, 336082236300394501, 264024642245689349, 191967048190984197, 408707178287923205], [336649584233218053, 264591990178512901, 192534396123807749, 408988653197524997, 336931059142819845, 264873465088114693, 192815871033409541, 408425703176994821], [336368109122289669, 264310515067584517, 192252921012879365, 408706078574968837, 336648484520263685, 264590890465558533, 192533296410853381, 408987553484570629], [336929959429865477, 264872365375160325, 192814771320455173, 408424603464040453, 336367009409335301, 264309415354630149, 192251821299924997, 408704978862014469], [336647384807309317, 264589790752604165, 192532196697899013, 408986453771616261, 336928859716911109, 264871265662205957, 192813671607500805, 408423503751086085], [336365909696380933, 264308315641675781, 192250721586970629, 408703879149060101, 336646285094354949, 264588691039649797, 192531096984944645, 408985354058661893], [336927760003956741, 264870165949251589, 192812571894546437, 408422404038131717, 336364809983426565, 264307215928721413, 192249621874016261, 408702779436105733], [336645185381400581, 264587591326695429, 192529997271990277, 408984254345707525, 336926660291002373, 264869066236297221, 192811472181592069, 408421304325177349]]
noncomputable def vd_58_1_2 : List (List Nat) := [[336363710270472197, 264306116215767045, 192248522161061893, 409270127234711557, 337212533180006405, 265154939125301253, 193097345070596101, 409551602144313349], [337494008089608197, 265436414034903045, 193378819980197893, 409269027588866053, 337211433534160901, 265153839479455749, 193096245424750597, 409550502498467845], [337492908443762693, 265435314389057541, 193377720334352389, 409267927943020549, 337210333888315397, 265152739833610245, 193095145778905093, 409549402852622341], [337491808797917189, 265434214743212037, 193376620688506885, 409266828297175045, 337209234242469893, 265151640187764741, 193094046133059589, 409548303206776837], [337490709152071685, 265433115097366533, 193375521042661381, 409265728651329541, 337208134596624389, 265150540541919237, 193092946487214085, 409547203560931333], [337489609506226181, 265432015451521029, 193374421396815877, 29987701005918735554548394452338052962795044211301190924600929914585416230212450130454502897662065988066575654382875561804071554353657091368333816918762610804404755150383671228549054059351582693143477331937995421064856495254459922572382165733525371593984995518527249298771032250902600391996956409695088149666617885821991710704822920656013735442351866824355574921643893938365818564680420983912399135179260226437124, 408324553677275141, 336266959622569989, 264209365567864837, 192151771513159685], [408326752633421829, 336269158578716677, 264211564524011525, 192153970469306373, 408887503496478725, 336829909441773573, 264772315387068421, 192714721332363269], [409168978406080517, 337111384351375365, 265053790296670213, 192996196241965061, 408606028385550341, 336548434330845189, 264490840276140037, 192433246221434885]]
noncomputable def vd_58_1_3 : List (List Nat) := [[408889702318407685, 336832108263702533, 264774514208997381, 192716920154292229, 409171177228009477, 337113583173304325, 265055989118599173, 192998395063894021], [408608227207479301, 336550633152774149, 264493039098068997, 192435445043363845, 409450453047246853, 337392858992541701, 265335264937836549, 193277670883131397], [409731927956848645, 337674333902143493, 265616739847438341, 193559145792733189, 409452651936284677, 337395057881579525, 265337463826874373, 193279869772169221], [409734126845886469, 337676532791181317, 265618938736476165, 193561344681771013, 408144232965013509, 336086638910308357, 264029044855603205, 191971450800898053], [408143133386276869, 336085539331571717, 264027945276866565, 191970351222161413, 408142033807540229, 336084439752835077, 264026845698129925, 191969251643424773], [408140934228803589, 336083340174098437, 264025746119393285, 191968152064688133, 408139834650066949, 336082240595361797, 264024646540656645, 191967052485951493], [408707182582890501, 336649588528185349, 264591994473480197, 192534400418775045, 408988657492492293, 336931063437787141, 264873469383081989, 192815875328376837], [408425707471962117, 336368113417256965, 264310519362551813, 192252925307846661, 408706082869936133, 336648488815230981, 264590894760525829, 192533300705820677]]
noncomputable def vd_58_1_4 : List (List Nat) := [[408987557779537925, 336929963724832773, 264872369670127621, 192814775615422469, 408424607759007749, 336367013704302597, 264309419649597445, 192251825594892293], [408704983156981765, 336647389102276613, 264589795047571461, 192532200992866309, 408986458066583557, 336928864011878405, 264871269957173253, 192813675902468101], [408423508046053381, 336365913991348229, 264308319936643077, 192250725881937925, 408703883444027397, 336646289389322245, 264588695334617093, 192531101279911941], [408985358353629189, 336927764298924037, 264870170244218885, 192812576189513733, 408422408333099013, 336364814278393861, 264307220223688709, 192249626168983557], [408702783731073029, 336645189676367877, 264587595621662725, 192530001566957573, 408984258640674821, 336926664585969669, 264869070531264517, 192811476476559365], [408421308620144645, 336363714565439493, 264306120510734341, 192248526456029189, 409270131529678853, 337212537474973701, 265154943420268549, 193097349365563397], [409551606439280645, 337494012384575493, 265436418329870341, 193378824275165189, 409269031883833349, 337211437829128197, 265153843774423045, 193096249719717893], [409550506793435141, 337492912738729989, 265435318684024837, 193377724629319685, 409267932237987845, 337210338183282693, 265152744128577541, 193095150073872389]]
noncomputable def vd_58_1_5 : List (List Nat) := [[409549407147589637, 337491813092884485, 265434219038179333, 193376624983474181, 409266832592142341, 337209238537437189, 265151644482732037, 193094050428026885], [409548307501744133, 337490713447038981, 265433119392333829, 193375525337628677, 409265732946296837, 337208138891591685, 265150544836886533, 193092950782181381], [409547207855898629, 337489613801193477, 265432019746488325, 193374425691783173, 83886084]]
noncomputable def vd_58_1 : List (List (List Nat)) := [vd_58_1_0, vd_58_1_1, vd_58_1_2, vd_58_1_3, vd_58_1_4, vd_58_1_5]
noncomputable def vd_58 : List (List (List (List Nat))) := [vd_58_0, vd_58_1]
noncomputable def vt_58 : List (List am_I) := [[(.ofNat 0, .ofNat 1), (.ofNat 5, .ofNat 12), (.negSucc 0, .negSucc 0), (.ofNat 5, .ofNat 11), (.ofNat 0, .ofNat 4), (.ofNat 5, .ofNat 13), (.ofNat 1, .ofNat 4)]]
noncomputable def vc_58 : vm_C := (fun _ => vp_58, fun pc => (match Nat.beq pc 122 with
  | true => [(fun _ _ => some (.inl 4), fun _ _ => some [.ofNat 0, .ofNat 2, .ofNat 3, .ofNat 4, .ofNat 5]), (fun _ _ => some (.inl 5), fun _ _ => some [.ofNat 0, .ofNat 5]), (fun _ _ => some (.inr (12, 0)), fun _ _ => some [.ofNat 3, .ofNat 4, .ofNat 5])]
  | false => []), [7, 39, 122], 853, vm_inst 8 169 vt_58 vf_58 vd_58)
theorem vx_58_0 : vm_chk bt_69 [] vk_58 79 vc_58 0 8 = true := by decide +kernel
theorem vx_58_1 : vm_chk bt_69 [] vk_58 79 vc_58 8 7 = true := by decide +kernel
theorem vx_58_2 : vm_chk bt_69 [] vk_58 79 vc_58 15 6 = true := by decide +kernel
theorem vx_58_3 : vm_chk bt_69 [] vk_58 79 vc_58 21 3 = true := by decide +kernel
theorem vx_58_4 : vm_chk bt_69 [] vk_58 79 vc_58 24 8 = true := by decide +kernel
theorem vx_58_5 : vm_chk bt_69 [] vk_58 79 vc_58 32 9 = true := by decide +kernel
theorem vx_58_6 : vm_chk bt_69 [] vk_58 79 vc_58 41 5 = true := by decide +kernel
theorem vx_58_7 : vm_chk bt_69 [] vk_58 79 vc_58 46 4 = true := by decide +kernel
theorem vx_58_8 : vm_chk bt_69 [] vk_58 79 vc_58 50 8 = true := by decide +kernel
theorem vx_58_9 : vm_chk bt_69 [] vk_58 79 vc_58 58 7 = true := by decide +kernel
theorem vx_58_10 : vm_chk bt_69 [] vk_58 79 vc_58 65 7 = true := by decide +kernel
theorem vx_58_11 : vm_chk bt_69 [] vk_58 79 vc_58 72 7 = true := by decide +kernel
theorem vx_58_12 : vm_chk bt_69 [] vk_58 79 vc_58 79 8 = true := by decide +kernel
theorem vx_58_13 : vm_chk bt_69 [] vk_58 79 vc_58 87 6 = true := by decide +kernel
theorem vx_58_14 : vm_chk bt_69 [] vk_58 79 vc_58 93 8 = true := by decide +kernel
theorem vx_58_15 : vm_chk bt_69 [] vk_58 79 vc_58 101 5 = true := by decide +kernel
theorem vx_58_16 : vm_chk bt_69 [] vk_58 79 vc_58 106 7 = true := by decide +kernel
theorem vx_58_17 : vm_chk bt_69 [] vk_58 79 vc_58 113 5 = true := by decide +kernel
theorem vx_58_18 : vm_chk bt_69 [] vk_58 79 vc_58 118 6 = true := by decide +kernel
theorem vx_58_19 : vm_chk bt_69 [] vk_58 79 vc_58 124 5 = true := by decide +kernel
theorem vx_58_20 : vm_chk bt_69 [] vk_58 79 vc_58 129 3 = true := by decide +kernel
theorem vx_58_21 : vm_chk bt_69 [] vk_58 79 vc_58 132 7 = true := by decide +kernel
theorem vx_58_22 : vm_chk bt_69 [] vk_58 79 vc_58 139 7 = true := by decide +kernel
theorem vx_58_23 : vm_chk bt_69 [] vk_58 79 vc_58 146 6 = true := by decide +kernel
theorem vx_58_24 : vm_chk bt_69 [] vk_58 79 vc_58 152 5 = true := by decide +kernel
theorem vx_58_25 : vm_chk bt_69 [] vk_58 79 vc_58 157 5 = true := by decide +kernel
theorem vx_58_26 : vm_chk bt_69 [] vk_58 79 vc_58 162 4 = true := by decide +kernel
theorem vx_58_27 : vm_chk bt_69 [] vk_58 79 vc_58 166 5 = true := by decide +kernel
theorem vx_58_28 : vm_chk bt_69 [] vk_58 79 vc_58 171 4 = true := by decide +kernel
theorem vx_58_29 : vm_chk bt_69 [] vk_58 79 vc_58 175 3 = true := by decide +kernel
theorem vx_58_30 : vm_chk bt_69 [] vk_58 79 vc_58 178 8 = true := by decide +kernel
theorem vx_58_31 : vm_chk bt_69 [] vk_58 79 vc_58 186 5 = true := by decide +kernel
theorem vx_58_32 : vm_chk bt_69 [] vk_58 79 vc_58 191 4 = true := by decide +kernel
theorem vx_58_33 : vm_chk bt_69 [] vk_58 79 vc_58 195 8 = true := by decide +kernel
theorem vx_58_34 : vm_chk bt_69 [] vk_58 79 vc_58 203 8 = true := by decide +kernel
theorem vx_58_35 : vm_chk bt_69 [] vk_58 79 vc_58 211 4 = true := by decide +kernel
theorem vx_58_36 : vm_chk bt_69 [] vk_58 79 vc_58 215 4 = true := by decide +kernel
theorem vx_58_37 : vm_chk bt_69 [] vk_58 79 vc_58 219 8 = true := by decide +kernel
theorem vx_58_38 : vm_chk bt_69 [] vk_58 79 vc_58 227 7 = true := by decide +kernel
theorem vx_58_39 : vm_chk bt_69 [] vk_58 79 vc_58 234 7 = true := by decide +kernel
theorem vx_58_40 : vm_chk bt_69 [] vk_58 79 vc_58 241 7 = true := by decide +kernel
theorem vx_58_41 : vm_chk bt_69 [] vk_58 79 vc_58 248 8 = true := by decide +kernel
theorem vx_58_42 : vm_chk bt_69 [] vk_58 79 vc_58 256 6 = true := by decide +kernel
theorem vx_58_43 : vm_chk bt_69 [] vk_58 79 vc_58 262 8 = true := by decide +kernel
theorem vx_58_44 : vm_chk bt_69 [] vk_58 79 vc_58 270 5 = true := by decide +kernel
theorem vx_58_45 : vm_chk bt_69 [] vk_58 79 vc_58 275 7 = true := by decide +kernel
theorem vx_58_46 : vm_chk bt_69 [] vk_58 79 vc_58 282 5 = true := by decide +kernel
theorem vx_58_47 : vm_chk bt_69 [] vk_58 79 vc_58 287 6 = true := by decide +kernel
theorem vx_58_48 : vm_chk bt_69 [] vk_58 79 vc_58 293 5 = true := by decide +kernel
theorem vx_58_49 : vm_chk bt_69 [] vk_58 79 vc_58 298 3 = true := by decide +kernel
theorem vx_58_50 : vm_chk bt_69 [] vk_58 79 vc_58 301 7 = true := by decide +kernel
theorem vx_58_51 : vm_chk bt_69 [] vk_58 79 vc_58 308 7 = true := by decide +kernel
theorem vx_58_52 : vm_chk bt_69 [] vk_58 79 vc_58 315 6 = true := by decide +kernel
theorem vx_58_53 : vm_chk bt_69 [] vk_58 79 vc_58 321 5 = true := by decide +kernel
theorem vx_58_54 : vm_chk bt_69 [] vk_58 79 vc_58 326 5 = true := by decide +kernel
theorem vx_58_55 : vm_chk bt_69 [] vk_58 79 vc_58 331 4 = true := by decide +kernel
theorem vx_58_56 : vm_chk bt_69 [] vk_58 79 vc_58 335 5 = true := by decide +kernel
theorem vx_58_57 : vm_chk bt_69 [] vk_58 79 vc_58 340 4 = true := by decide +kernel
theorem vx_58_58 : vm_chk bt_69 [] vk_58 79 vc_58 344 3 = true := by decide +kernel
theorem vx_58_59 : vm_chk bt_69 [] vk_58 79 vc_58 347 8 = true := by decide +kernel
theorem vx_58_60 : vm_chk bt_69 [] vk_58 79 vc_58 355 5 = true := by decide +kernel
theorem vx_58_61 : vm_chk bt_69 [] vk_58 79 vc_58 360 4 = true := by decide +kernel
theorem vx_58_62 : vm_chk bt_69 [] vk_58 79 vc_58 364 8 = true := by decide +kernel
theorem vx_58_63 : vm_chk bt_69 [] vk_58 79 vc_58 372 8 = true := by decide +kernel
theorem vx_58_64 : vm_chk bt_69 [] vk_58 79 vc_58 380 4 = true := by decide +kernel
theorem vx_58_65 : vm_chk bt_69 [] vk_58 79 vc_58 384 4 = true := by decide +kernel
theorem vx_58_66 : vm_chk bt_69 [] vk_58 79 vc_58 388 8 = true := by decide +kernel
theorem vx_58_67 : vm_chk bt_69 [] vk_58 79 vc_58 396 7 = true := by decide +kernel
theorem vx_58_68 : vm_chk bt_69 [] vk_58 79 vc_58 403 7 = true := by decide +kernel
theorem vx_58_69 : vm_chk bt_69 [] vk_58 79 vc_58 410 7 = true := by decide +kernel
theorem vx_58_70 : vm_chk bt_69 [] vk_58 79 vc_58 417 8 = true := by decide +kernel
theorem vx_58_71 : vm_chk bt_69 [] vk_58 79 vc_58 425 6 = true := by decide +kernel
theorem vx_58_72 : vm_chk bt_69 [] vk_58 79 vc_58 431 8 = true := by decide +kernel
theorem vx_58_73 : vm_chk bt_69 [] vk_58 79 vc_58 439 5 = true := by decide +kernel
theorem vx_58_74 : vm_chk bt_69 [] vk_58 79 vc_58 444 7 = true := by decide +kernel
theorem vx_58_75 : vm_chk bt_69 [] vk_58 79 vc_58 451 5 = true := by decide +kernel
theorem vx_58_76 : vm_chk bt_69 [] vk_58 79 vc_58 456 6 = true := by decide +kernel
theorem vx_58_77 : vm_chk bt_69 [] vk_58 79 vc_58 462 5 = true := by decide +kernel
theorem vx_58_78 : vm_chk bt_69 [] vk_58 79 vc_58 467 3 = true := by decide +kernel
theorem vx_58_79 : vm_chk bt_69 [] vk_58 79 vc_58 470 7 = true := by decide +kernel
theorem vx_58_80 : vm_chk bt_69 [] vk_58 79 vc_58 477 7 = true := by decide +kernel
theorem vx_58_81 : vm_chk bt_69 [] vk_58 79 vc_58 484 6 = true := by decide +kernel
theorem vx_58_82 : vm_chk bt_69 [] vk_58 79 vc_58 490 5 = true := by decide +kernel
theorem vx_58_83 : vm_chk bt_69 [] vk_58 79 vc_58 495 5 = true := by decide +kernel
theorem vx_58_84 : vm_chk bt_69 [] vk_58 79 vc_58 500 4 = true := by decide +kernel
theorem vx_58_85 : vm_chk bt_69 [] vk_58 79 vc_58 504 5 = true := by decide +kernel
theorem vx_58_86 : vm_chk bt_69 [] vk_58 79 vc_58 509 4 = true := by decide +kernel
theorem vx_58_87 : vm_chk bt_69 [] vk_58 79 vc_58 513 3 = true := by decide +kernel
theorem vx_58_88 : vm_chk bt_69 [] vk_58 79 vc_58 516 8 = true := by decide +kernel
theorem vx_58_89 : vm_chk bt_69 [] vk_58 79 vc_58 524 5 = true := by decide +kernel
theorem vx_58_90 : vm_chk bt_69 [] vk_58 79 vc_58 529 4 = true := by decide +kernel
theorem vx_58_91 : vm_chk bt_69 [] vk_58 79 vc_58 533 8 = true := by decide +kernel
theorem vx_58_92 : vm_chk bt_69 [] vk_58 79 vc_58 541 8 = true := by decide +kernel
theorem vx_58_93 : vm_chk bt_69 [] vk_58 79 vc_58 549 4 = true := by decide +kernel
theorem vx_58_94 : vm_chk bt_69 [] vk_58 79 vc_58 553 4 = true := by decide +kernel
theorem vx_58_95 : vm_chk bt_69 [] vk_58 79 vc_58 557 8 = true := by decide +kernel
theorem vx_58_96 : vm_chk bt_69 [] vk_58 79 vc_58 565 7 = true := by decide +kernel
theorem vx_58_97 : vm_chk bt_69 [] vk_58 79 vc_58 572 7 = true := by decide +kernel
theorem vx_58_98 : vm_chk bt_69 [] vk_58 79 vc_58 579 7 = true := by decide +kernel
theorem vx_58_99 : vm_chk bt_69 [] vk_58 79 vc_58 586 8 = true := by decide +kernel
theorem vx_58_100 : vm_chk bt_69 [] vk_58 79 vc_58 594 6 = true := by decide +kernel
theorem vx_58_101 : vm_chk bt_69 [] vk_58 79 vc_58 600 8 = true := by decide +kernel
theorem vx_58_102 : vm_chk bt_69 [] vk_58 79 vc_58 608 5 = true := by decide +kernel
theorem vx_58_103 : vm_chk bt_69 [] vk_58 79 vc_58 613 7 = true := by decide +kernel
theorem vx_58_104 : vm_chk bt_69 [] vk_58 79 vc_58 620 5 = true := by decide +kernel
theorem vx_58_105 : vm_chk bt_69 [] vk_58 79 vc_58 625 6 = true := by decide +kernel
theorem vx_58_106 : vm_chk bt_69 [] vk_58 79 vc_58 631 5 = true := by decide +kernel
theorem vx_58_107 : vm_chk bt_69 [] vk_58 79 vc_58 636 3 = true := by decide +kernel
theorem vx_58_108 : vm_chk bt_69 [] vk_58 79 vc_58 639 7 = true := by decide +kernel
theorem vx_58_109 : vm_chk bt_69 [] vk_58 79 vc_58 646 7 = true := by decide +kernel
theorem vx_58_110 : vm_chk bt_69 [] vk_58 79 vc_58 653 6 = true := by decide +kernel
theorem vx_58_111 : vm_chk bt_69 [] vk_58 79 vc_58 659 5 = true := by decide +kernel
theorem vx_58_112 : vm_chk bt_69 [] vk_58 79 vc_58 664 5 = true := by decide +kernel
theorem vx_58_113 : vm_chk bt_69 [] vk_58 79 vc_58 669 4 = true := by decide +kernel
theorem vx_58_114 : vm_chk bt_69 [] vk_58 79 vc_58 673 5 = true := by decide +kernel
theorem vx_58_115 : vm_chk bt_69 [] vk_58 79 vc_58 678 4 = true := by decide +kernel
theorem vx_58_116 : vm_chk bt_69 [] vk_58 79 vc_58 682 3 = true := by decide +kernel
theorem vx_58_117 : vm_chk bt_69 [] vk_58 79 vc_58 685 8 = true := by decide +kernel
theorem vx_58_118 : vm_chk bt_69 [] vk_58 79 vc_58 693 5 = true := by decide +kernel
theorem vx_58_119 : vm_chk bt_69 [] vk_58 79 vc_58 698 4 = true := by decide +kernel
theorem vx_58_120 : vm_chk bt_69 [] vk_58 79 vc_58 702 8 = true := by decide +kernel
theorem vx_58_121 : vm_chk bt_69 [] vk_58 79 vc_58 710 8 = true := by decide +kernel
theorem vx_58_122 : vm_chk bt_69 [] vk_58 79 vc_58 718 4 = true := by decide +kernel
theorem vx_58_123 : vm_chk bt_69 [] vk_58 79 vc_58 722 4 = true := by decide +kernel
theorem vx_58_124 : vm_chk bt_69 [] vk_58 79 vc_58 726 8 = true := by decide +kernel
theorem vx_58_125 : vm_chk bt_69 [] vk_58 79 vc_58 734 7 = true := by decide +kernel
theorem vx_58_126 : vm_chk bt_69 [] vk_58 79 vc_58 741 7 = true := by decide +kernel
theorem vx_58_127 : vm_chk bt_69 [] vk_58 79 vc_58 748 7 = true := by decide +kernel
theorem vx_58_128 : vm_chk bt_69 [] vk_58 79 vc_58 755 8 = true := by decide +kernel
theorem vx_58_129 : vm_chk bt_69 [] vk_58 79 vc_58 763 6 = true := by decide +kernel
theorem vx_58_130 : vm_chk bt_69 [] vk_58 79 vc_58 769 8 = true := by decide +kernel
theorem vx_58_131 : vm_chk bt_69 [] vk_58 79 vc_58 777 5 = true := by decide +kernel
theorem vx_58_132 : vm_chk bt_69 [] vk_58 79 vc_58 782 7 = true := by decide +kernel
theorem vx_58_133 : vm_chk bt_69 [] vk_58 79 vc_58 789 5 = true := by decide +kernel
theorem vx_58_134 : vm_chk bt_69 [] vk_58 79 vc_58 794 6 = true := by decide +kernel
theorem vx_58_135 : vm_chk bt_69 [] vk_58 79 vc_58 800 5 = true := by decide +kernel
theorem vx_58_136 : vm_chk bt_69 [] vk_58 79 vc_58 805 3 = true := by decide +kernel
theorem vx_58_137 : vm_chk bt_69 [] vk_58 79 vc_58 808 7 = true := by decide +kernel
theorem vx_58_138 : vm_chk bt_69 [] vk_58 79 vc_58 815 7 = true := by decide +kernel
theorem vx_58_139 : vm_chk bt_69 [] vk_58 79 vc_58 822 6 = true := by decide +kernel
theorem vx_58_140 : vm_chk bt_69 [] vk_58 79 vc_58 828 5 = true := by decide +kernel
theorem vx_58_141 : vm_chk bt_69 [] vk_58 79 vc_58 833 5 = true := by decide +kernel
theorem vx_58_142 : vm_chk bt_69 [] vk_58 79 vc_58 838 4 = true := by decide +kernel
theorem vx_58_143 : vm_chk bt_69 [] vk_58 79 vc_58 842 5 = true := by decide +kernel
theorem vx_58_144 : vm_chk bt_69 [] vk_58 79 vc_58 847 4 = true := by decide +kernel
theorem vx_58_145 : vm_chk bt_69 [] vk_58 79 vc_58 851 2 = true := by decide +kernel
theorem vy_58 : vm_ents 69 79 vc_58 ve_58 = true := by decide +kernel
theorem vgr_58_0 (i : Nat) : i < 241 → ∃ lo k, lo ≤ i ∧ i < lo + k ∧ vm_chk bt_69 [] vk_58 79 vc_58 lo k = true := vm_hc vx_58_39 rfl (vm_hc vx_58_38 rfl (vm_hc vx_58_37 rfl (vm_hc vx_58_36 rfl (vm_hc vx_58_35 rfl (vm_hc vx_58_34 rfl (vm_hc vx_58_33 rfl (vm_hc vx_58_32 rfl (vm_hc vx_58_31 rfl (vm_hc vx_58_30 rfl (vm_hc vx_58_29 rfl (vm_hc vx_58_28 rfl (vm_hc vx_58_27 rfl (vm_hc vx_58_26 rfl (vm_hc vx_58_25 rfl (vm_hc vx_58_24 rfl (vm_hc vx_58_23 rfl (vm_hc vx_58_22 rfl (vm_hc vx_58_21 rfl (vm_hc vx_58_20 rfl (vm_hc vx_58_19 rfl (vm_hc vx_58_18 rfl (vm_hc vx_58_17 rfl (vm_hc vx_58_16 rfl (vm_hc vx_58_15 rfl (vm_hc vx_58_14 rfl (vm_hc vx_58_13 rfl (vm_hc vx_58_12 rfl (vm_hc vx_58_11 rfl (vm_hc vx_58_10 rfl (vm_hc vx_58_9 rfl (vm_hc vx_58_8 rfl (vm_hc vx_58_7 rfl (vm_hc vx_58_6 rfl (vm_hc vx_58_5 rfl (vm_hc vx_58_4 rfl (vm_hc vx_58_3 rfl (vm_hc vx_58_2 rfl (vm_hc vx_58_1 rfl (vm_hc vx_58_0 rfl (fun h => absurd h (Nat.not_lt_zero _)))))))))))))))))))))))))))))))))))))))))
theorem vgr_58_1 (i : Nat) : i < 477 → ∃ lo k, lo ≤ i ∧ i < lo + k ∧ vm_chk bt_69 [] vk_58 79 vc_58 lo k = true := vm_hc vx_58_79 rfl (vm_hc vx_58_78 rfl (vm_hc vx_58_77 rfl (vm_hc vx_58_76 rfl (vm_hc vx_58_75 rfl (vm_hc vx_58_74 rfl (vm_hc vx_58_73 rfl (vm_hc vx_58_72 rfl (vm_hc vx_58_71 rfl (vm_hc vx_58_70 rfl (vm_hc vx_58_69 rfl (vm_hc vx_58_68 rfl (vm_hc vx_58_67 rfl (vm_hc vx_58_66 rfl (vm_hc vx_58_65 rfl (vm_hc vx_58_64 rfl (vm_hc vx_58_63 rfl (vm_hc vx_58_62 rfl (vm_hc vx_58_61 rfl (vm_hc vx_58_60 rfl (vm_hc vx_58_59 rfl (vm_hc vx_58_58 rfl (vm_hc vx_58_57 rfl (vm_hc vx_58_56 rfl (vm_hc vx_58_55 rfl (vm_hc vx_58_54 rfl (vm_hc vx_58_53 rfl (vm_hc vx_58_52 rfl (vm_hc vx_58_51 rfl (vm_hc vx_58_50 rfl (vm_hc vx_58_49 rfl (vm_hc vx_58_48 rfl (vm_hc vx_58_47 rfl (vm_hc vx_58_46 rfl (vm_hc vx_58_45 rfl (vm_hc vx_58_44 rfl (vm_hc vx_58_43 rfl (vm_hc vx_58_42 rfl (vm_hc vx_58_41 rfl (vm_hc vx_58_40 rfl (vgr_58_0 i))))))))))))))))))))))))))))))))))))))))
theorem vgr_58_2 (i : Nat) : i < 702 → ∃ lo k, lo ≤ i ∧ i < lo + k ∧ vm_chk bt_69 [] vk_58 79 vc_58 lo k = true := vm_hc vx_58_119 rfl (vm_hc vx_58_118 rfl (vm_hc vx_58_117 rfl (vm_hc vx_58_116 rfl (vm_hc vx_58_115 rfl (vm_hc vx_58_114 rfl (vm_hc vx_58_113 rfl (vm_hc vx_58_112 rfl (vm_hc vx_58_111 rfl (vm_hc vx_58_110 rfl (vm_hc vx_58_109 rfl (vm_hc vx_58_108 rfl (vm_hc vx_58_107 rfl (vm_hc vx_58_106 rfl (vm_hc vx_58_105 rfl (vm_hc vx_58_104 rfl (vm_hc vx_58_103 rfl (vm_hc vx_58_102 rfl (vm_hc vx_58_101 rfl (vm_hc vx_58_100 rfl (vm_hc vx_58_99 rfl (vm_hc vx_58_98 rfl (vm_hc vx_58_97 rfl (vm_hc vx_58_96 rfl (vm_hc vx_58_95 rfl (vm_hc vx_58_94 rfl (vm_hc vx_58_93 rfl (vm_hc vx_58_92 rfl (vm_hc vx_58_91 rfl (vm_hc vx_58_90 rfl (vm_hc vx_58_89 rfl (vm_hc vx_58_88 rfl (vm_hc vx_58_87 rfl (vm_hc vx_58_86 rfl (vm_hc vx_58_85 rfl (vm_hc vx_58_84 rfl (vm_hc vx_58_83 rfl (vm_hc vx_58_82 rfl (vm_hc vx_58_81 rfl (vm_hc vx_58_80 rfl (vgr_58_1 i))))))))))))))))))))))))))))))))))))))))
theorem vgr_58_3 (i : Nat) : i < 853 → ∃ lo k, lo ≤ i ∧ i < lo + k ∧ vm_chk bt_69 [] vk_58 79 vc_58 lo k = true := vm_hc vx_58_145 rfl (vm_hc vx_58_144 rfl (vm_hc vx_58_143 rfl (vm_hc vx_58_142 rfl (vm_hc vx_58_141 rfl (vm_hc vx_58_140 rfl (vm_hc vx_58_139 rfl (vm_hc vx_58_138 rfl (vm_hc vx_58_137 rfl (vm_hc vx_58_136 rfl (vm_hc vx_58_135 rfl (vm_hc vx_58_134 rfl (vm_hc vx_58_133 rfl (vm_hc vx_58_132 rfl (vm_hc vx_58_131 rfl (vm_hc vx_58_130 rfl (vm_hc vx_58_129 rfl (vm_hc vx_58_128 rfl (vm_hc vx_58_127 rfl (vm_hc vx_58_126 rfl (vm_hc vx_58_125 rfl (vm_hc vx_58_124 rfl (vm_hc vx_58_123 rfl (vm_hc vx_58_122 rfl (vm_hc vx_58_121 rfl (vm_hc vx_58_120 rfl (vgr_58_2 i))))))))))))))))))))))))))
theorem vw_58 : ∀ q ∈ vk_58, vm_wt 1 q := vm_wts vm_kn (by decide +kernel)
theorem v_58 : vm_at 2 q_58 := vm_ok (inl := []) (es := ve_58) bq_69 (by decide) vw_58 vy_58 (fun i => vgr_58_3 i) _ List.mem_cons_self
noncomputable def vp_59 : List vm_R := [(some (.inl (.ofNat 0, .ofNat 6)), va_h0)]
noncomputable def ve_59 : List vm_E := [([.inr (.inr (some 28)), .inl (.ofNat 0, .ofNat 5), .inl (.negSucc 0, .ofNat 6)], va_h0, 0, [0])]
noncomputable def q_59 : vm_Q := (71, [.inr (.inr (some 28)), .inl (.ofNat 0, .ofNat 5), .inl (.negSucc 0, .ofNat 6)], va_h0, vp_59)
noncomputable def vk_59 : List vm_U := [(q_17, true, []), (q_18, true, [])]
noncomputable def vf_59 : List ((Nat → am_I) → vm_A) := [fun v => (0, [(0, .inr (.inr (some 28))), (1, .inl (.ofNat 0, .ofNat 5)), (2, .inl (.negSucc 0, .ofNat 6))], [], (80, [])), fun v => (5, [(0, .inr (.inr (some 28))), (1, .inl (.ofNat 0, .ofNat 5)), (2, .inl (.negSucc 0, .ofNat 6)), (3, .inl (v 0)), (4, .inl (v 1))], [], (80, []))]
noncomputable def vd_59_0_0 : List (List Nat) := [[65536, 65537, 1129576464385, 2233383059457, 3337189654529, 4440996249601, 5544802844673, 25971130369]]
noncomputable def vd_59_0 : List (List (List Nat)) := [vd_59_0_0]
noncomputable def vd_59 : List (List (List (List Nat))) := [vd_59_0]
noncomputable def vt_59 : List (List am_I) := [[(.ofNat 0, .ofNat 1), (.ofNat 0, .ofNat 2), (.ofNat 0, .ofNat 3), (.ofNat 0, .ofNat 4), (.ofNat 0, .ofNat 5), (.ofNat 0, .ofNat 6)]]
noncomputable def vc_59 : vm_C := (fun _ => vp_59, fun pc => [], [5], 8, vm_inst 8 7 vt_59 vf_59 vd_59)
theorem vx_59_0 : vm_chk bt_71 [] vk_59 36 vc_59 0 7 = true := by decide +kernel
theorem vx_59_1 : vm_chk bt_71 [] vk_59 36 vc_59 7 1 = true := by decide +kernel
theorem vy_59 : vm_ents 71 36 vc_59 ve_59 = true := by decide +kernel
theorem vw_59 : ∀ q ∈ vk_59, vm_wt 2 q := vm_wts (vm_kc (vm_up v_17 rfl) (vm_kc (vm_up v_18 rfl) vm_kn)) (by decide +kernel)
theorem v_59 : vm_at 3 q_59 := vm_ok (inl := []) (es := ve_59) bq_71 (by decide) vw_59 vy_59 (fun i => vm_hc vx_59_1 rfl (vm_hc vx_59_0 rfl (fun h => absurd h (Nat.not_lt_zero _)))) _ List.mem_cons_self
noncomputable def vp_60 : List vm_R := [(none, va_h0)]
noncomputable def ve_60 : List vm_E := [([.inr (.inr (some 28)), .inr (.inr (some 20))], va_h0, 0, [0])]
noncomputable def q_60 : vm_Q := (70, [.inr (.inr (some 28)), .inr (.inr (some 20))], va_h0, vp_60)
noncomputable def vk_60 : List vm_U := [(q_59, true, []), (q_1, true, [])]
noncomputable def vf_60 : List ((Nat → am_I) → vm_A) := [fun v => (0, [(0, .inr (.inr (some 28))), (1, .inr (.inr (some 20)))], [], (80, [])), fun v => (7, [(0, .inr (.inr (some 28))), (1, .inr (.inr (some 20))), (2, .inl (v 0))], [], (80, []))]
noncomputable def vd_60_0_0 : List (List Nat) := [[65536, 65537, 4295032833, 8590000129, 12884967425, 17179934721, 83886081]]
noncomputable def vd_60_0 : List (List (List Nat)) := [vd_60_0_0]
noncomputable def vd_60 : List (List (List (List Nat))) := [vd_60_0]
noncomputable def vt_60 : List (List am_I) := []
noncomputable def vc_60 : vm_C := (fun _ => vp_60, fun pc => [], [7], 7, vm_inst 8 6 vt_60 vf_60 vd_60)
theorem vx_60_0 : vm_chk bt_70 [] vk_60 42 vc_60 0 6 = true := by decide +kernel
theorem vx_60_1 : vm_chk bt_70 [] vk_60 42 vc_60 6 1 = true := by decide +kernel
theorem vy_60 : vm_ents 70 42 vc_60 ve_60 = true := by decide +kernel
theorem vw_60 : ∀ q ∈ vk_60, vm_wt 3 q := vm_wts (vm_kc (vm_up v_59 rfl) (vm_kc (vm_up v_1 rfl) vm_kn)) (by decide +kernel)
theorem v_60 : vm_at 4 q_60 := vm_ok (inl := []) (es := ve_60) bq_70 (by decide) vw_60 vy_60 (fun i => vm_hc vx_60_1 rfl (vm_hc vx_60_0 rfl (fun h => absurd h (Nat.not_lt_zero _)))) _ List.mem_cons_self
noncomputable def vp_61 : List vm_R := [(none, va_h0)]
noncomputable def ve_61 : List vm_E := [([.inr (.inr (some 28)), .inr (.inr (some 20))], va_h0, 0, [0])]
noncomputable def q_61 : vm_Q := (68, [.inr (.inr (some 28)), .inr (.inr (some 20))], va_h0, vp_61)
noncomputable def vk_61 : List vm_U := [(q_57, false, []), (q_58, false, []), (q_60, false, [])]
noncomputable def vf_61 : List ((Nat → am_I) → vm_A) := [fun v => (0, [(0, .inr (.inr (some 28))), (1, .inr (.inr (some 20)))], [], (80, []))]
noncomputable def vd_61_0_0 : List (List Nat) := [[0]]
noncomputable def vd_61_0 : List (List (List Nat)) := [vd_61_0_0]
noncomputable def vd_61 : List (List (List (List Nat))) := [vd_61_0]
noncomputable def vt_61 : List (List am_I) := []
noncomputable def vc_61 : vm_C := (fun _ => vp_61, fun pc => [], [], 1, vm_inst 8 1 vt_61 vf_61 vd_61)
theorem vx_61_0 : vm_chk bt_68 [] vk_61 18 vc_61 0 1 = true := by decide +kernel
theorem vy_61 : vm_ents 68 18 vc_61 ve_61 = true := by decide +kernel
theorem vw_61 : ∀ q ∈ vk_61, vm_wt 4 q := vm_wts (vm_kc (vm_up v_57 rfl) (vm_kc (vm_up v_58 rfl) (vm_kc (vm_up v_60 rfl) vm_kn))) (by decide +kernel)
theorem v_61 : vm_at 5 q_61 := vm_ok (inl := []) (es := ve_61) bq_68 (by decide) vw_61 vy_61 (fun i => vm_hc vx_61_0 rfl (fun h => absurd h (Nat.not_lt_zero _))) _ List.mem_cons_self
noncomputable def vp_62 : List vm_R := [(some (.inl (.ofNat 0, .ofNat 1)), va_h0)]
noncomputable def ve_62 : List vm_E := [([.inr (.inr (some 28))], va_h0, 0, [0])]
noncomputable def q_62 : vm_Q := (77, [.inr (.inr (some 28))], va_h0, vp_62)
noncomputable def vk_62 : List vm_U := []
noncomputable def vf_62 : List ((Nat → am_I) → vm_A) := [fun v => (0, [(0, .inr (.inr (some 28)))], [], (80, []))]
noncomputable def vd_62_0_0 : List (List Nat) := [[0]]
noncomputable def vd_62_0 : List (List (List Nat)) := [vd_62_0_0]
noncomputable def vd_62 : List (List (List (List Nat))) := [vd_62_0]
noncomputable def vt_62 : List (List am_I) := []
noncomputable def vc_62 : vm_C := (fun _ => vp_62, fun pc => [], [], 1, vm_inst 8 1 vt_62 vf_62 vd_62)
theorem vx_62_0 : vm_chk bt_77 [] vk_62 11 vc_62 0 1 = true := by decide +kernel
theorem vy_62 : vm_ents 77 11 vc_62 ve_62 = true := by decide +kernel
theorem vw_62 : ∀ q ∈ vk_62, vm_wt 1 q := vm_wts vm_kn (by decide +kernel)
theorem v_62 : vm_at 2 q_62 := vm_ok (inl := []) (es := ve_62) bq_77 (by decide) vw_62 vy_62 (fun i => vm_hc vx_62_0 rfl (fun h => absurd h (Nat.not_lt_zero _))) _ List.mem_cons_self
noncomputable def vp_63 : List vm_R := [(none, va_h0)]
noncomputable def ve_63 : List vm_E := [([.inr (.inr (some 28)), .inr (.inr (some 20)), .inl (.ofNat 0, .ofNat 60)], va_h0, 0, [0])]
noncomputable def q_63 : vm_Q := (76, [.inr (.inr (some 28)), .inr (.inr (some 20)), .inl (.ofNat 0, .ofNat 60)], va_h0, vp_63)
noncomputable def vk_63 : List vm_U := [(q_61, false, []), (q_62, true, [])]
noncomputable def vf_63 : List ((Nat → am_I) → vm_A) := [fun v => (0, [(0, .inr (.inr (some 28))), (1, .inr (.inr (some 20))), (2, .inl (.ofNat 0, .ofNat 60))], [], (80, [])), fun v => (10, [(0, .inr (.inr (some 28))), (1, .inr (.inr (some 20))), (2, .inl (.ofNat 0, .ofNat 60)), (3, .inl am_top), (4, .inl (v 0))], [], (80, []))]
noncomputable def vd_63_0_0 : List (List Nat) := [[65536, 65537, 4295032833, 8590000129, 12884967425, 17179934721, 21474902017, 25769869313], [30064836609, 34359803905, 38654771201, 42949738497, 47244705793, 51539673089, 55834640385, 60129607681], [64424574977, 68719542273, 73014509569, 77309476865, 81604444161, 85899411457, 90194378753, 94489346049], [98784313345, 103079280641, 107374247937, 111669215233, 115964182529, 120259149825, 124554117121, 128849084417], [133144051713, 137439019009, 141733986305, 146028953601, 150323920897, 154618888193, 158913855489, 163208822785], [167503790081, 171798757377, 176093724673, 180388691969, 184683659265, 188978626561, 193273593857, 197568561153], [201863528449, 206158495745, 210453463041, 214748430337, 219043397633, 223338364929, 227633332225, 231928299521], [236223266817, 240518234113, 244813201409, 249108168705, 253403136001, 1006632961]]
noncomputable def vd_63_0 : List (List (List Nat)) := [vd_63_0_0]
noncomputable def vd_63 : List (List (List (List Nat))) := [vd_63_0]
noncomputable def vt_63 : List (List am_I) := []
noncomputable def vc_63 : vm_C := (fun _ => vp_63, fun pc => [], [10], 62, vm_inst 8 61 vt_63 vf_63 vd_63)
theorem vx_63_0 : vm_chk bt_76 [] vk_63 16 vc_63 0 11 = true := by decide +kernel
theorem vx_63_1 : vm_chk bt_76 [] vk_63 16 vc_63 11 10 = true := by decide +kernel
theorem vx_63_2 : vm_chk bt_76 [] vk_63 16 vc_63 21 10 = true := by decide +kernel
theorem vx_63_3 : vm_chk bt_76 [] vk_63 16 vc_63 31 10 = true := by decide +kernel
theorem vx_63_4 : vm_chk bt_76 [] vk_63 16 vc_63 41 10 = true := by decide +kernel
theorem vx_63_5 : vm_chk bt_76 [] vk_63 16 vc_63 51 10 = true := by decide +kernel
theorem vx_63_6 : vm_chk bt_76 [] vk_63 16 vc_63 61 1 = true := by decide +kernel
theorem vy_63 : vm_ents 76 16 vc_63 ve_63 = true := by decide +kernel
theorem vw_63 : ∀ q ∈ vk_63, vm_wt 5 q := vm_wts (vm_kc (vm_up v_61 rfl) (vm_kc (vm_up v_62 rfl) vm_kn)) (by decide +kernel)
theorem v_63 : vm_at 6 q_63 := vm_ok (inl := []) (es := ve_63) bq_76 (by decide) vw_63 vy_63 (fun i => vm_hc vx_63_6 rfl (vm_hc vx_63_5 rfl (vm_hc vx_63_4 rfl (vm_hc vx_63_3 rfl (vm_hc vx_63_2 rfl (vm_hc vx_63_1 rfl (vm_hc vx_63_0 rfl (fun h => absurd h (Nat.not_lt_zero _))))))))) _ List.mem_cons_self
noncomputable def vp_64 : List vm_R := [(none, va_h0)]
noncomputable def ve_64 : List vm_E := [([.inr (.inr (some 28)), .inr (.inr (some 35)), .inl (.ofNat 0, .ofNat 5), .inl (.ofNat 0, .ofNat 5)], va_h0, 0, [0])]
noncomputable def q_64 : vm_Q := (61, [.inr (.inr (some 28)), .inr (.inr (some 35)), .inl (.ofNat 0, .ofNat 5), .inl (.ofNat 0, .ofNat 5)], va_h0, vp_64)
noncomputable def vk_64 : List vm_U := [(q_17, true, []), (q_18, true, []), (q_54, true, []), (q_55, true, [])]
noncomputable def vf_64 : List ((Nat → am_I) → vm_A) := [fun v => (0, [(0, .inr (.inr (some 28))), (1, .inr (.inr (some 35))), (2, .inl (.ofNat 0, .ofNat 5)), (3, .inl (.ofNat 0, .ofNat 5))], [], (80, [])), fun v => (43, [(0, .inr (.inr (some 28))), (1, .inr (.inr (some 35))), (2, .inl (.ofNat 0, .ofNat 5)), (3, .inl (.ofNat 0, .ofNat 5)), (4, .inl (.negSucc 3, .ofNat 4)), (5, .inl (.negSucc 11, .ofNat 12)), (6, .inl (v 0))], [], (80, []))]
noncomputable def vd_64_0_0 : List (List Nat) := [[4295098368, 50331649, 67108865]]
noncomputable def vd_64_0 : List (List (List Nat)) := [vd_64_0_0]
noncomputable def vd_64 : List (List (List (List Nat))) := [vd_64_0]
noncomputable def vt_64 : List (List am_I) := [[(.ofNat 5, .ofNat 16), (.ofNat 0, .ofNat 4)]]
noncomputable def vc_64 : vm_C := (fun _ => vp_64, fun pc => (match Nat.beq pc 43 with
  | true => [(fun _ _ => some (.inl 6), fun _ _ => some [.ofNat 5])]
  | false => []), [43], 3, vm_inst 8 3 vt_64 vf_64 vd_64)
theorem vx_64_0 : vm_chk bt_61 [] vk_64 66 vc_64 0 3 = true := by decide +kernel
theorem vy_64 : vm_ents 61 66 vc_64 ve_64 = true := by decide +kernel
theorem vw_64 : ∀ q ∈ vk_64, vm_wt 2 q := vm_wts (vm_kc (vm_up v_17 rfl) (vm_kc (vm_up v_18 rfl) (vm_kc (vm_up v_54 rfl) (vm_kc (vm_up v_55 rfl) vm_kn)))) (by decide +kernel)
theorem v_64 : vm_at 3 q_64 := vm_ok (inl := []) (es := ve_64) bq_61 (by decide) vw_64 vy_64 (fun i => vm_hc vx_64_0 rfl (fun h => absurd h (Nat.not_lt_zero _))) _ List.mem_cons_self
noncomputable def vp_65 : List vm_R := [(none, va_h0)]
noncomputable def ve_65 : List vm_E := [([.inr (.inr (some 28)), .inr (.inr (some 35))], va_h0, 0, [0])]
noncomputable def q_65 : vm_Q := (58, [.inr (.inr (some 28)), .inr (.inr (some 35))], va_h0, vp_65)
noncomputable def vk_65 : List vm_U := [(q_24, true, []), (q_25, true, []), (q_64, false, []), (q_53, true, [])]
noncomputable def vf_65 : List ((Nat → am_I) → vm_A) := [fun v => (0, [(0, .inr (.inr (some 28))), (1, .inr (.inr (some 35)))], [], (80, [])), fun v => (2, [(0, .inr (.inr (some 28))), (1, .inr (.inr (some 35))), (2, .inl (v 0))], [], (80, [])), fun v => (64, [(0, .inr (.inr (some 28))), (1, .inr (.inr (some 35))), (2, .inl (.ofNat 0, .ofNat 0))], [], (80, [])), fun v => (123, [(0, .inr (.inr (some 28))), (1, .inr (.inr (some 35))), (2, .inl (v 0))], [], (80, [])), fun v => (76, [(0, .inr (.inr (some 28))), (1, .inr (.inr (some 35))), (2, .inl (v 0)), (3, .inl (v 1))], [], (80, [])), fun v => (64, [(0, .inr (.inr (some 28))), (1, .inr (.inr (some 35))), (2, .inl (v 0)), (3, .inl am_top)], [], (80, [])), fun v => (123, [(0, .inr (.inr (some 28))), (1, .inr (.inr (some 35))), (2, .inl (v 0)), (3, .inl am_top)], [], (80, []))]
noncomputable def vd_65_0_0 : List (List Nat) := [[65536, 25769934849, 1120986595329, 2216203255809, 3311419916289, 4406636576769, 5501853237249, 25769869313], [30064902146, 65539, 4295032835, 8590000131, 12884967427, 17179934723, 21474902019, 100663299], [281496451678212, 562967133421572, 844437815164932, 1125908496908292, 1407379178651652, 6597069832196, 1185411104773, 564066645049348], [845537326792708, 1127008008536068, 1408478690279428, 6601364799492, 2259152928773, 846636838420484, 1128107520163844, 1409578201907204], [6605659766788, 3337189720069, 1129207031791620, 1410677713534980, 6609954734084, 4419521478661, 1411777225162756, 6614249701380], [5506148204549, 6618544668676, 25769869317, 65542, 4295032838, 8590000134, 12884967430, 17179934726], [21474902022, 100663302]]
noncomputable def vd_65_0 : List (List (List Nat)) := [vd_65_0_0]
noncomputable def vd_65 : List (List (List (List Nat))) := [vd_65_0]
noncomputable def vt_65 : List (List am_I) := []
noncomputable def vc_65 : vm_C := (fun _ => vp_65, fun pc => [], [2, 64, 76, 123], 50, vm_inst 8 21 vt_65 vf_65 vd_65)
theorem vx_65_0 : vm_chk bt_58 [] vk_65 39 vc_65 0 7 = true := by decide +kernel
theorem vx_65_1 : vm_chk bt_58 [] vk_65 39 vc_65 7 8 = true := by decide +kernel
theorem vx_65_2 : vm_chk bt_58 [] vk_65 39 vc_65 15 9 = true := by decide +kernel
theorem vx_65_3 : vm_chk bt_58 [] vk_65 39 vc_65 24 9 = true := by decide +kernel
theorem vx_65_4 : vm_chk bt_58 [] vk_65 39 vc_65 33 11 = true := by decide +kernel
theorem vx_65_5 : vm_chk bt_58 [] vk_65 39 vc_65 44 6 = true := by decide +kernel
theorem vy_65 : vm_ents 58 39 vc_65 ve_65 = true := by decide +kernel
theorem vw_65 : ∀ q ∈ vk_65, vm_wt 3 q := vm_wts (vm_kc (vm_up v_24 rfl) (vm_kc (vm_up v_25 rfl) (vm_kc (vm_up v_64 rfl) (vm_kc (vm_up v_53 rfl) vm_kn)))) (by decide +kernel)
theorem v_65 : vm_at 4 q_65 := vm_ok (inl := []) (es := ve_65) bq_58 (by decide) vw_65 vy_65 (fun i => vm_hc vx_65_5 rfl (vm_hc vx_65_4 rfl (vm_hc vx_65_3 rfl (vm_hc vx_65_2 rfl (vm_hc vx_65_1 rfl (vm_hc vx_65_0 rfl (fun h => absurd h (Nat.not_lt_zero _)))))))) _ List.mem_cons_self
noncomputable def vp_66 : List vm_R := [(none, va_h0)]
noncomputable def ve_66 : List vm_E := [([.inr (.inr (some 28)), .inr (.inr (some 35))], va_h0, 0, [0])]
noncomputable def q_66 : vm_Q := (69, [.inr (.inr (some 28)), .inr (.inr (some 35))], va_h0, vp_66)
noncomputable def vk_66 : List vm_U := []
noncomputable def vf_66 : List ((Nat → am_I) → vm_A) := [fun v => (0, [(0, .inr (.inr (some 28))), (1, .inr (.inr (some 35)))], [], (80, [])), fun v => (7, [(0, .inr (.inr (some 28))), (1, .inr (.inr (some 35))), (2, .inl am_top), (3, .inl (v 0))], [], (80, [])), fun v => (39, [(0, .inr (.inr (some 28))), (1, .inr (.inr (some 35))), (2, .inl am_top), (3, .inl (.ofNat 0, .ofNat 0))], [], (80, [])), fun v => (122, [(0, .inr (.inr (some 28))), (1, .inr (.inr (some 35))), (2, .inl am_top), (3, .inl (.ofNat 0, .ofNat 0)), (4, .inl (v 0)), (5, .inl (v 1))], [], (80, [(27, .inr (.inr (.inr (4, [.inl (v 2), .inl (.ofNat 2, .ofNat 5), .inl am_top, .inl (.negSucc 0, .ofNat 6), .inl am_top, .inl am_top, .inl (.ofNat 0, .ofNat 8), .inr (.inr (some 36)), .inr (.inr (some 37)), .inr (.inr (some 38)), .inr (.inr (some 39)), .inr (.inr (some 40)), .inr (.inr (some 41)), .inr (.inr (some 42))]))))])), fun v => (39, [(0, .inr (.inr (some 28))), (1, .inr (.inr (some 35))), (2, .inl am_top), (3, .inl (v 0)), (4, .inl am_top), (5, .inl am_top), (6, .inl am_top), (7, .inl am_top)], [], (80, [])), fun v => (122, [(0, .inr (.inr (some 28))), (1, .inr (.inr (some 35))), (2, .inl am_top), (3, .inl (v 0)), (4, .inl (v 1)), (5, .inl (v 2)), (6, .inl am_top), (7, .inl am_top)], [], (80, [(27, .inr (.inr (.inr (4, [.inl (v 3), .inl (.ofNat 2, .ofNat 5), .inl am_top, .inl (.negSucc 0, .ofNat 6), .inl am_top, .inl am_top, .inl (.ofNat 0, .ofNat 8), .inr (.inr (some 36)), .inr (.inr (some 37)), .inr (.inr (some 38)), .inr (.inr (some 39)), .inr (.inr (some 40)), .inr (.inr (some 41)), .inr (.inr (some 42))]))))]))]
noncomputable def vd_66_0_0 : List (List Nat) := [[65536, 25769934849, 1120986595329, 2216203255809, 3311419916289, 4406636576769, 5501853237249, 25769869313], [4218909026033894870078659028420278730846903578299645552236675871478853737717774895122552072108342092861951928963012160946282535814896504535519311426003974503094884742252442334568503515426741411520998264537430445648352238618215437032754695146081208203797548100200091131803681850948303627191389012139576699678223018229717114246719943086571106864178852852639577257018156161116444931870700291984133964043271597981698, 1595020511608835, 1313545518120963, 1032070524633091, 750595531145219, 1595029034434563, 1313554040946691, 1032079047458819], [750604053970947, 1597219400646659, 1315744407158787, 1034269413670915, 752794420183043, 1598318845165571, 1316843851677699, 1035368858189827], [753893864701955, 1596119754801155, 1314644761313283, 1033169767825411, 751694774337539, 1597227789254659, 1315752795766787, 1034277802278915], [752802808791043, 1598327233773571, 1316852240285699, 1035377246797827, 753902253309955, 1596128143409155, 1314653149921283, 1033178156433411], [751703162945539, 1599418021249027, 1317943027761155, 1036468034273283, 754993040785411, 1600517465767939, 1319042472280067, 1037567478792195], [756092485304323, 1599426476965891, 1317951483478019, 1036476489990147, 755001496502275, 1600525921484803, 1319050927996931, 1037575934509059], [756100941021187, 1594315331665923, 1312840338178051, 1031365344690179, 749890351202307, 1594310969589763, 1312835976101891, 1031360982614019]]
noncomputable def vd_66_0_1 : List (List Nat) := [[749885989126147, 1594306607513603, 1312831614025731, 1031356620537859, 749881627049987, 1594302245437443, 1312827251949571, 1031352258461699], [749877264973827, 1594297883361283, 1312822889873411, 1031347896385539, 749872902897667, 1596514019377155, 1315039025889283, 1033564032401411], [752089038913539, 1597613463896067, 1316138470408195, 1034663476920323, 753188483432451, 1595414373531651, 1313939380043779, 1032464386555907], [750989393068035, 1596509523083267, 1315034529595395, 1033559536107523, 752084542619651, 1597608967602179, 1316133974114307, 1034658980626435], [753183987138563, 1595409877237763, 1313934883749891, 1032459890262019, 750984896774147, 1596505026789379, 1315030033301507, 1033555039813635], [752080046325763, 1597604471308291, 1316129477820419, 1034654484332547, 753179490844675, 1595405380943875, 1313930387456003, 1032455393968131], [750980400480259, 1596500530495491, 1315025537007619, 1033550543519747, 752075550031875, 1597599975014403, 1316124981526531, 1034649988038659], [753174994550787, 1595400884649987, 1313925891162115, 1032450897674243, 750975904186371, 1596496034201603, 1315021040713731, 1033546047225859]]
noncomputable def vd_66_0_2 : List (List Nat) := [[752071053737987, 1597595478720515, 1316120485232643, 1034645491744771, 753170498256899, 1595396388356099, 1313921394868227, 1032446401380355], [750971407892483, 1598712035999747, 1317237042511875, 1035762049024003, 754287055536131, 1599811480518659, 1318336487030787, 1036861493542915], [755386500055043, 1598707606814723, 1317232613326851, 1035757619838979, 754282626351107, 1599807051333635, 1318332057845763, 1036857064357891], [755382070870019, 1598703177629699, 1317228184141827, 1035753190653955, 754278197166083, 1599802622148611, 1318327628660739, 1036852635172867], [755377641684995, 1598698748444675, 1317223754956803, 1035748761468931, 754273767981059, 1599798192963587, 1318323199475715, 1036848205987843], [755373212499971, 1598694319259651, 1317219325771779, 1035744332283907, 754269338796035, 1599793763778563, 1318318770290691, 1036843776802819], [755368783314947, 10661107021005105041196092884399722288833938736550031895327739382255494360841443703955539778496773066663107860317978011160729790449586651243722937799193633578422352344285249558063641151407951731926618031387571689502478302777276558417661562792942249051344409954781880673545519450936877818392780861528454562175321735127785763361245687478931764008722106345568576673174590605428788340073130464966200256827268755095556, 408324540792373253, 336266946737668101, 264209352682962949, 192151758628257797, 408326739748519941, 336269145693814789], [264211551639109637, 192153957584404485, 408887490611576837, 336829896556871685, 264772302502166533, 192714708447461381, 409168965521178629, 337111371466473477]]
noncomputable def vd_66_0_3 : List (List Nat) := [[265053777411768325, 192996183357063173, 408606015500648453, 336548421445943301, 264490827391238149, 192433233336532997, 408889689433505797, 336832095378800645], [264774501324095493, 192716907269390341, 409171164343107589, 337113570288402437, 265055976233697285, 192998382178992133, 408608214322577413, 336550620267872261], [264493026213167109, 192435432158461957, 409450440162344965, 337392846107639813, 265335252052934661, 193277657998229509, 409731915071946757, 337674321017241605], [265616726962536453, 193559132907831301, 409452639051382789, 337395044996677637, 265337450941972485, 193279856887267333, 409734113960984581, 337676519906279429], [265618925851574277, 193561331796869125, 408144220080111621, 336086626025406469, 264029031970701317, 191971437915996165, 408143120501374981, 336085526446669829], [264027932391964677, 191970338337259525, 408142020922638341, 336084426867933189, 264026832813228037, 191969238758522885, 408140921343901701, 336083327289196549], [264025733234491397, 191968139179786245, 408139821765165061, 336082227710459909, 264024633655754757, 191967039601049605, 408707169697988613, 336649575643283461], [264591981588578309, 192534387533873157, 408988644607590405, 336931050552885253, 264873456498180101, 192815862443474949, 408425694587060229, 336368100532355077]]
noncomputable def vd_66_0_4 : List (List Nat) := [[264310506477649925, 192252912422944773, 408706069985034245, 336648475930329093, 264590881875623941, 192533287820918789, 408987544894636037, 336929950839930885], [264872356785225733, 192814762730520581, 408424594874105861, 336367000819400709, 264309406764695557, 192251812709990405, 408704970272079877, 336647376217374725], [264589782162669573, 192532188107964421, 408986445181681669, 336928851126976517, 264871257072271365, 192813663017566213, 408423495161151493, 336365901106446341], [264308307051741189, 192250712997036037, 408703870559125509, 336646276504420357, 264588682449715205, 192531088395010053, 408985345468727301, 336927751414022149], [264870157359316997, 192812563304611845, 408422395448197125, 336364801393491973, 264307207338786821, 192249613284081669, 408702770846171141, 336645176791465989], [264587582736760837, 192529988682055685, 408984245755772933, 336926651701067781, 264869057646362629, 192811463591657477, 408421295735242757, 336363701680537605], [264306107625832453, 192248513571127301, 409270118644776965, 337212524590071813, 265154930535366661, 193097336480661509, 409551593554378757, 337493999499673605], [265436405444968453, 193378811390263301, 409269018998931461, 337211424944226309, 265153830889521157, 193096236834816005, 409550493908533253, 337492899853828101]]
noncomputable def vd_66_0_5 : List (List Nat) := [[265435305799122949, 193377711744417797, 409267919353085957, 337210325298380805, 265152731243675653, 193095137188970501, 409549394262687749, 337491800207982597], [265434206153277445, 193376612098572293, 409266819707240453, 337209225652535301, 265151631597830149, 193094037543124997, 409548294616842245, 337490700562137093], [265433106507431941, 193375512452726789, 409265720061394949, 337208126006689797, 265150531951984645, 193092937897279493, 409547194970996741, 337489600916291589], [265432006861586437, 193374412806881285, 17103305015976315212313526740379165846820973894800418238418802893032134983965112512788527484885204040464263791672943861375177045084276797951926564172383292653749819946318056781558778787389162052332237798237712933356604366936337679802568430439803289898891271809363670215287357050925452009594172710917332424672420452025854412475771431871292421153265359838497576089331025049741131748275560637948266549611265912209412, 408324545087340549, 336266951032635397, 264209356977930245, 192151762923225093, 408326744043487237], [336269149988782085, 264211555934076933, 192153961879371781, 408887494906544133, 336829900851838981, 264772306797133829, 192714712742428677, 409168969816145925], [337111375761440773, 265053781706735621, 192996187652030469, 408606019795615749, 336548425740910597, 264490831686205445, 192433237631500293, 408889693728473093], [336832099673767941, 264774505619062789, 192716911564357637, 409171168638074885, 337113574583369733, 265055980528664581, 192998386473959429, 408608218617544709], [336550624562839557, 264493030508134405, 192435436453429253, 409450444457312261, 337392850402607109, 265335256347901957, 193277662293196805, 409731919366914053]]
noncomputable def vd_66_0_6 : List (List Nat) := [[337674325312208901, 265616731257503749, 193559137202798597, 409452643346350085, 337395049291644933, 265337455236939781, 193279861182234629, 409734118255951877], [337676524201246725, 265618930146541573, 193561336091836421, 408144224375078917, 336086630320373765, 264029036265668613, 191971442210963461, 408143124796342277], [336085530741637125, 264027936686931973, 191970342632226821, 408142025217605637, 336084431162900485, 264026837108195333, 191969243053490181, 408140925638868997], [336083331584163845, 264025737529458693, 191968143474753541, 408139826060132357, 336082232005427205, 264024637950722053, 191967043896016901, 408707173992955909], [336649579938250757, 264591985883545605, 192534391828840453, 408988648902557701, 336931054847852549, 264873460793147397, 192815866738442245, 408425698882027525], [336368104827322373, 264310510772617221, 192252916717912069, 408706074280001541, 336648480225296389, 264590886170591237, 192533292115886085, 408987549189603333], [336929955134898181, 264872361080193029, 192814767025487877, 408424599169073157, 336367005114368005, 264309411059662853, 192251817004957701, 408704974567047173], [336647380512342021, 264589786457636869, 192532192402931717, 408986449476648965, 336928855421943813, 264871261367238661, 192813667312533509, 408423499456118789]]
noncomputable def vd_66_0_7 : List (List Nat) := [[336365905401413637, 264308311346708485, 192250717292003333, 408703874854092805, 336646280799387653, 264588686744682501, 192531092689977349, 408985349763694597], [336927755708989445, 264870161654284293, 192812567599579141, 408422399743164421, 336364805688459269, 264307211633754117, 192249617579048965, 408702775141138437], [336645181086433285, 264587587031728133, 192529992977022981, 408984250050740229, 336926655996035077, 264869061941329925, 192811467886624773, 408421300030210053], [336363705975504901, 264306111920799749, 192248517866094597, 409270122939744261, 337212528885039109, 265154934830333957, 193097340775628805, 409551597849346053], [337494003794640901, 265436409739935749, 193378815685230597, 409269023293898757, 337211429239193605, 265153835184488453, 193096241129783301, 409550498203500549], [337492904148795397, 265435310094090245, 193377716039385093, 409267923648053253, 337210329593348101, 265152735538642949, 193095141483937797, 409549398557655045], [337491804502949893, 265434210448244741, 193376616393539589, 409266824002207749, 337209229947502597, 265151635892797445, 193094041838092293, 409548298911809541], [337490704857104389, 265433110802399237, 193375516747694085, 409265724356362245, 337208130301657093, 265150536246951941, 193092942192246789, 409547199265964037]]
noncomputable def vd_66_0 : List (List (List Nat)) := [vd_66_0_0, vd_66_0_1, vd_66_0_2, vd_66_0_3, vd_66_0_4, vd_66_0_5, vd_66_0_6, vd_66_0_7]
noncomputable def vd_66_1_0 : List (List Nat) := [[337489605211258885, 265432011156553733, 193374417101848581, 23545503010947525383430960596358609404808009053050804581509866403808775607088781321621515191273635014265419723027909711589624299718966944660130190545572951729077287548350864005053916423370372372737857565087854177210730431095398801187475298086664330746438133663945459757029194650914026200795564560306210287169519168923923061590297176263653078297808613331426575505487459494053475156477990810930332842395263069323268, 408324549382307845, 336266955327602693, 264209361272897541, 192151767218192389], [408326748338454533, 336269154283749381, 264211560229044229, 192153966174339077, 408887499201511429, 336829905146806277, 264772311092101125, 192714717037395973], [409168974111113221, 337111380056408069, 265053786001702917, 192996191946997765, 408606024090583045, 336548430035877893, 264490835981172741, 192433241926467589], [408889698023440389, 336832103968735237, 264774509914030085, 192716915859324933, 409171172933042181, 337113578878337029, 265055984823631877, 192998390768926725], [408608222912512005, 336550628857806853, 264493034803101701, 192435440748396549, 409450448752279557, 337392854697574405, 265335260642869253, 193277666588164101], [409731923661881349, 337674329607176197, 265616735552471045, 193559141497765893, 409452647641317381, 337395053586612229, 265337459531907077, 193279865477201925], [409734122550919173, 337676528496214021, 265618934441508869, 193561340386803717, 408144228670046213, 336086634615341061, 264029040560635909, 191971446505930757], [408143129091309573, 336085535036604421, 264027940981899269, 191970346927194117, 408142029512572933, 336084435457867781, 264026841403162629, 191969247348457477]]
noncomputable def vd_66_1_1 : List (List Nat) := [[408140929933836293, 336083335879131141, 264025741824425989, 191968147769720837, 408139830355099653, 336082236300394501, 264024642245689349, 191967048190984197], [408707178287923205, 336649584233218053, 264591990178512901, 192534396123807749, 408988653197524997, 336931059142819845, 264873465088114693, 192815871033409541], [408425703176994821, 336368109122289669, 264310515067584517, 192252921012879365, 408706078574968837, 336648484520263685, 264590890465558533, 192533296410853381], [408987553484570629, 336929959429865477, 264872365375160325, 192814771320455173, 408424603464040453, 336367009409335301, 264309415354630149, 192251821299924997], [408704978862014469, 336647384807309317, 264589790752604165, 192532196697899013, 408986453771616261, 336928859716911109, 264871265662205957, 192813671607500805], [408423503751086085, 336365909696380933, 264308315641675781, 192250721586970629, 408703879149060101, 336646285094354949, 264588691039649797, 192531096984944645], [408985354058661893, 336927760003956741, 264870165949251589, 192812571894546437, 408422404038131717, 336364809983426565, 264307215928721413, 192249621874016261], [408702779436105733, 336645185381400581, 264587591326695429, 192529997271990277, 408984254345707525, 336926660291002373, 264869066236297221, 192811472181592069]]
noncomputable def vd_66_1_2 : List (List Nat) := [[408421304325177349, 336363710270472197, 264306116215767045, 192248522161061893, 409270127234711557, 337212533180006405, 265154939125301253, 193097345070596101], [409551602144313349, 337494008089608197, 265436414034903045, 193378819980197893, 409269027588866053, 337211433534160901, 265153839479455749, 193096245424750597], [409550502498467845, 337492908443762693, 265435314389057541, 193377720334352389, 409267927943020549, 337210333888315397, 265152739833610245, 193095145778905093], [409549402852622341, 337491808797917189, 265434214743212037, 193376620688506885, 409266828297175045, 337209234242469893, 265151640187764741, 193094046133059589], [409548303206776837, 337490709152071685, 265433115097366533, 193375521042661381, 409265728651329541, 337208134596624389, 265150540541919237, 193092946487214085], [409547203560931333, 337489609506226181, 265432015451521029, 193374421396815877, 29987701005918735554548394452338052962795044211301190924600929914585416230212450130454502897662065988066575654382875561804071554353657091368333816918762610804404755150383671228549054059351582693143477331937995421064856495254459922572382165733525371593984995518527249298771032250902600391996956409695088149666617885821991710704822920656013735442351866824355574921643893938365818564680420983912399135179260226437124, 408324553677275141, 336266959622569989, 264209365567864837], [192151771513159685, 408326752633421829, 336269158578716677, 264211564524011525, 192153970469306373, 408887503496478725, 336829909441773573, 264772315387068421], [192714721332363269, 409168978406080517, 337111384351375365, 265053790296670213, 192996196241965061, 408606028385550341, 336548434330845189, 264490840276140037]]
noncomputable def vd_66_1_3 : List (List Nat) := [[192433246221434885, 408889702318407685, 336832108263702533, 264774514208997381, 192716920154292229, 409171177228009477, 337113583173304325, 265055989118599173], [192998395063894021, 408608227207479301, 336550633152774149, 264493039098068997, 192435445043363845, 409450453047246853, 337392858992541701, 265335264937836549], [193277670883131397, 409731927956848645, 337674333902143493, 265616739847438341, 193559145792733189, 409452651936284677, 337395057881579525, 265337463826874373], [193279869772169221, 409734126845886469, 337676532791181317, 265618938736476165, 193561344681771013, 408144232965013509, 336086638910308357, 264029044855603205], [191971450800898053, 408143133386276869, 336085539331571717, 264027945276866565, 191970351222161413, 408142033807540229, 336084439752835077, 264026845698129925], [191969251643424773, 408140934228803589, 336083340174098437, 264025746119393285, 191968152064688133, 408139834650066949, 336082240595361797, 264024646540656645], [191967052485951493, 408707182582890501, 336649588528185349, 264591994473480197, 192534400418775045, 408988657492492293, 336931063437787141, 264873469383081989], [192815875328376837, 408425707471962117, 336368113417256965, 264310519362551813, 192252925307846661, 408706082869936133, 336648488815230981, 264590894760525829]]
noncomputable def vd_66_1_4 : List (List Nat) := [[192533300705820677, 408987557779537925, 336929963724832773, 264872369670127621, 192814775615422469, 408424607759007749, 336367013704302597, 264309419649597445], [192251825594892293, 408704983156981765, 336647389102276613, 264589795047571461, 192532200992866309, 408986458066583557, 336928864011878405, 264871269957173253], [192813675902468101, 408423508046053381, 336365913991348229, 264308319936643077, 192250725881937925, 408703883444027397, 336646289389322245, 264588695334617093], [192531101279911941, 408985358353629189, 336927764298924037, 264870170244218885, 192812576189513733, 408422408333099013, 336364814278393861, 264307220223688709], [192249626168983557, 408702783731073029, 336645189676367877, 264587595621662725, 192530001566957573, 408984258640674821, 336926664585969669, 264869070531264517], [192811476476559365, 408421308620144645, 336363714565439493, 264306120510734341, 192248526456029189, 409270131529678853, 337212537474973701, 265154943420268549], [193097349365563397, 409551606439280645, 337494012384575493, 265436418329870341, 193378824275165189, 409269031883833349, 337211437829128197, 265153843774423045], [193096249719717893, 409550506793435141, 337492912738729989, 265435318684024837, 193377724629319685, 409267932237987845, 337210338183282693, 265152744128577541]]
noncomputable def vd_66_1_5 : List (List Nat) := [[193095150073872389, 409549407147589637, 337491813092884485, 265434219038179333, 193376624983474181, 409266832592142341, 337209238537437189, 265151644482732037], [193094050428026885, 409548307501744133, 337490713447038981, 265433119392333829, 193375525337628677, 409265732946296837, 337208138891591685, 265150544836886533], [193092950782181381, 409547207855898629, 337489613801193477, 265432019746488325, 193374425691783173, 36429899000889945725665828308317496520782079369551577267691993425362056853336118939287490604050496961867731585737841412018518808988347238076537443291952269879732222752416478452044191695332793013549097098788136664918982559413521043957289033380386412441531857373109038840512869850891174583198348259083966012163716602720060359819348665048374392586895120317284574337800328382678161972882851156894465427963257383550980, 408324557972242437, 336266963917537285], [264209369862832133, 192151775808126981, 408326756928389125, 336269162873683973, 264211568818978821, 192153974764273669, 408887507791446021, 336829913736740869], [264772319682035717, 192714725627330565, 409168982701047813, 337111388646342661, 265053794591637509, 192996200536932357, 408606032680517637, 336548438625812485], [264490844571107333, 192433250516402181, 408889706613374981, 336832112558669829, 264774518503964677, 192716924449259525, 409171181522976773, 337113587468271621], [265055993413566469, 192998399358861317, 408608231502446597, 336550637447741445, 264493043393036293, 192435449338331141, 409450457342214149, 337392863287508997], [265335269232803845, 193277675178098693, 409731932251815941, 337674338197110789, 265616744142405637, 193559150087700485, 409452656231251973, 337395062176546821]]
noncomputable def vd_66_1_6 : List (List Nat) := [[265337468121841669, 193279874067136517, 409734131140853765, 337676537086148613, 265618943031443461, 193561348976738309, 408144237259980805, 336086643205275653], [264029049150570501, 191971455095865349, 408143137681244165, 336085543626539013, 264027949571833861, 191970355517128709, 408142038102507525, 336084444047802373], [264026849993097221, 191969255938392069, 408140938523770885, 336083344469065733, 264025750414360581, 191968156359655429, 408139838945034245, 336082244890329093], [264024650835623941, 191967056780918789, 408707186877857797, 336649592823152645, 264591998768447493, 192534404713742341, 408988661787459589, 336931067732754437], [264873473678049285, 192815879623344133, 408425711766929413, 336368117712224261, 264310523657519109, 192252929602813957, 408706087164903429, 336648493110198277], [264590899055493125, 192533305000787973, 408987562074505221, 336929968019800069, 264872373965094917, 192814779910389765, 408424612053975045, 336367017999269893], [264309423944564741, 192251829889859589, 408704987451949061, 336647393397243909, 264589799342538757, 192532205287833605, 408986462361550853, 336928868306845701], [264871274252140549, 192813680197435397, 408423512341020677, 336365918286315525, 264308324231610373, 192250730176905221, 408703887738994693, 336646293684289541]]
noncomputable def vd_66_1_7 : List (List Nat) := [[264588699629584389, 192531105574879237, 408985362648596485, 336927768593891333, 264870174539186181, 192812580484481029, 408422412628066309, 336364818573361157], [264307224518656005, 192249630463950853, 408702788026040325, 336645193971335173, 264587599916630021, 192530005861924869, 408984262935642117, 336926668880936965], [264869074826231813, 192811480771526661, 408421312915111941, 336363718860406789, 264306124805701637, 192248530750996485, 409270135824646149, 337212541769940997], [265154947715235845, 193097353660530693, 409551610734247941, 337494016679542789, 265436422624837637, 193378828570132485, 409269036178800645, 337211442124095493], [265153848069390341, 193096254014685189, 409550511088402437, 337492917033697285, 265435322978992133, 193377728924286981, 409267936532955141, 337210342478249989], [265152748423544837, 193095154368839685, 409549411442556933, 337491817387851781, 265434223333146629, 193376629278441477, 409266836887109637, 337209242832404485], [265151648777699333, 193094054722994181, 409548311796711429, 337490717742006277, 265433123687301125, 193375529632595973, 409265737241264133, 337208143186558981], [265150549131853829, 193092955077148677, 409547212150865925, 337489618096160773, 265432024041455621, 193374429986750469, 100663300]]
noncomputable def vd_66_1 : List (List (List Nat)) := [vd_66_1_0, vd_66_1_1, vd_66_1_2, vd_66_1_3, vd_66_1_4, vd_66_1_5, vd_66_1_6, vd_66_1_7]
noncomputable def vd_66 : List (List (List (List Nat))) := [vd_66_0, vd_66_1]
noncomputable def vt_66 : List (List am_I) := [[(.ofNat 0, .ofNat 1), (.ofNat 5, .ofNat 12), (.negSucc 0, .negSucc 0), (.ofNat 5, .ofNat 11), (.ofNat 0, .ofNat 4), (.ofNat 5, .ofNat 13), (.ofNat 1, .ofNat 4)]]
noncomputable def vc_66 : vm_C := (fun _ => vp_66, fun pc => (match Nat.beq pc 122 with
  | true => [(fun _ _ => some (.inl 4), fun _ _ => some [.ofNat 0, .ofNat 2, .ofNat 3, .ofNat 4, .ofNat 5]), (fun _ _ => some (.inl 5), fun _ _ => some [.ofNat 0, .ofNat 5]), (fun _ _ => some (.inr (27, 0)), fun _ _ => some [.ofNat 3, .ofNat 4, .ofNat 5])]
  | false => []), [7, 39, 122], 1023, vm_inst 8 169 vt_66 vf_66 vd_66)
theorem vx_66_0 : vm_chk bt_69 [] vk_66 79 vc_66 0 9 = true := by decide +kernel
theorem vx_66_1 : vm_chk bt_69 [] vk_66 79 vc_66 9 7 = true := by decide +kernel
theorem vx_66_2 : vm_chk bt_69 [] vk_66 79 vc_66 16 6 = true := by decide +kernel
theorem vx_66_3 : vm_chk bt_69 [] vk_66 79 vc_66 22 3 = true := by decide +kernel
theorem vx_66_4 : vm_chk bt_69 [] vk_66 79 vc_66 25 8 = true := by decide +kernel
theorem vx_66_5 : vm_chk bt_69 [] vk_66 79 vc_66 33 9 = true := by decide +kernel
theorem vx_66_6 : vm_chk bt_69 [] vk_66 79 vc_66 42 5 = true := by decide +kernel
theorem vx_66_7 : vm_chk bt_69 [] vk_66 79 vc_66 47 4 = true := by decide +kernel
theorem vx_66_8 : vm_chk bt_69 [] vk_66 79 vc_66 51 8 = true := by decide +kernel
theorem vx_66_9 : vm_chk bt_69 [] vk_66 79 vc_66 59 7 = true := by decide +kernel
theorem vx_66_10 : vm_chk bt_69 [] vk_66 79 vc_66 66 7 = true := by decide +kernel
theorem vx_66_11 : vm_chk bt_69 [] vk_66 79 vc_66 73 7 = true := by decide +kernel
theorem vx_66_12 : vm_chk bt_69 [] vk_66 79 vc_66 80 8 = true := by decide +kernel
theorem vx_66_13 : vm_chk bt_69 [] vk_66 79 vc_66 88 6 = true := by decide +kernel
theorem vx_66_14 : vm_chk bt_69 [] vk_66 79 vc_66 94 8 = true := by decide +kernel
theorem vx_66_15 : vm_chk bt_69 [] vk_66 79 vc_66 102 5 = true := by decide +kernel
theorem vx_66_16 : vm_chk bt_69 [] vk_66 79 vc_66 107 7 = true := by decide +kernel
theorem vx_66_17 : vm_chk bt_69 [] vk_66 79 vc_66 114 5 = true := by decide +kernel
theorem vx_66_18 : vm_chk bt_69 [] vk_66 79 vc_66 119 6 = true := by decide +kernel
theorem vx_66_19 : vm_chk bt_69 [] vk_66 79 vc_66 125 5 = true := by decide +kernel
theorem vx_66_20 : vm_chk bt_69 [] vk_66 79 vc_66 130 3 = true := by decide +kernel
theorem vx_66_21 : vm_chk bt_69 [] vk_66 79 vc_66 133 7 = true := by decide +kernel
theorem vx_66_22 : vm_chk bt_69 [] vk_66 79 vc_66 140 7 = true := by decide +kernel
theorem vx_66_23 : vm_chk bt_69 [] vk_66 79 vc_66 147 6 = true := by decide +kernel
theorem vx_66_24 : vm_chk bt_69 [] vk_66 79 vc_66 153 5 = true := by decide +kernel
theorem vx_66_25 : vm_chk bt_69 [] vk_66 79 vc_66 158 5 = true := by decide +kernel
theorem vx_66_26 : vm_chk bt_69 [] vk_66 79 vc_66 163 4 = true := by decide +kernel
theorem vx_66_27 : vm_chk bt_69 [] vk_66 79 vc_66 167 5 = true := by decide +kernel
theorem vx_66_28 : vm_chk bt_69 [] vk_66 79 vc_66 172 4 = true := by decide +kernel
theorem vx_66_29 : vm_chk bt_69 [] vk_66 79 vc_66 176 3 = true := by decide +kernel
theorem vx_66_30 : vm_chk bt_69 [] vk_66 79 vc_66 179 8 = true := by decide +kernel
theorem vx_66_31 : vm_chk bt_69 [] vk_66 79 vc_66 187 5 = true := by decide +kernel
theorem vx_66_32 : vm_chk bt_69 [] vk_66 79 vc_66 192 4 = true := by decide +kernel
theorem vx_66_33 : vm_chk bt_69 [] vk_66 79 vc_66 196 8 = true := by decide +kernel
theorem vx_66_34 : vm_chk bt_69 [] vk_66 79 vc_66 204 8 = true := by decide +kernel
theorem vx_66_35 : vm_chk bt_69 [] vk_66 79 vc_66 212 4 = true := by decide +kernel
theorem vx_66_36 : vm_chk bt_69 [] vk_66 79 vc_66 216 4 = true := by decide +kernel
theorem vx_66_37 : vm_chk bt_69 [] vk_66 79 vc_66 220 8 = true := by decide +kernel
theorem vx_66_38 : vm_chk bt_69 [] vk_66 79 vc_66 228 7 = true := by decide +kernel
theorem vx_66_39 : vm_chk bt_69 [] vk_66 79 vc_66 235 7 = true := by decide +kernel
theorem vx_66_40 : vm_chk bt_69 [] vk_66 79 vc_66 242 7 = true := by decide +kernel
theorem vx_66_41 : vm_chk bt_69 [] vk_66 79 vc_66 249 8 = true := by decide +kernel
theorem vx_66_42 : vm_chk bt_69 [] vk_66 79 vc_66 257 6 = true := by decide +kernel
theorem vx_66_43 : vm_chk bt_69 [] vk_66 79 vc_66 263 8 = true := by decide +kernel
theorem vx_66_44 : vm_chk bt_69 [] vk_66 79 vc_66 271 5 = true := by decide +kernel
theorem vx_66_45 : vm_chk bt_69 [] vk_66 79 vc_66 276 7 = true := by decide +kernel
theorem vx_66_46 : vm_chk bt_69 [] vk_66 79 vc_66 283 5 = true := by decide +kernel
theorem vx_66_47 : vm_chk bt_69 [] vk_66 79 vc_66 288 6 = true := by decide +kernel
theorem vx_66_48 : vm_chk bt_69 [] vk_66 79 vc_66 294 5 = true := by decide +kernel
theorem vx_66_49 : vm_chk bt_69 [] vk_66 79 vc_66 299 3 = true := by decide +kernel
theorem vx_66_50 : vm_chk bt_69 [] vk_66 79 vc_66 302 7 = true := by decide +kernel
theorem vx_66_51 : vm_chk bt_69 [] vk_66 79 vc_66 309 7 = true := by decide +kernel
theorem vx_66_52 : vm_chk bt_69 [] vk_66 79 vc_66 316 6 = true := by decide +kernel
theorem vx_66_53 : vm_chk bt_69 [] vk_66 79 vc_66 322 5 = true := by decide +kernel
theorem vx_66_54 : vm_chk bt_69 [] vk_66 79 vc_66 327 5 = true := by decide +kernel
theorem vx_66_55 : vm_chk bt_69 [] vk_66 79 vc_66 332 4 = true := by decide +kernel
theorem vx_66_56 : vm_chk bt_69 [] vk_66 79 vc_66 336 5 = true := by decide +kernel
theorem vx_66_57 : vm_chk bt_69 [] vk_66 79 vc_66 341 4 = true := by decide +kernel
theorem vx_66_58 : vm_chk bt_69 [] vk_66 79 vc_66 345 3 = true := by decide +kernel
theorem vx_66_59 : vm_chk bt_69 [] vk_66 79 vc_66 348 8 = true := by decide +kernel
theorem vx_66_60 : vm_chk bt_69 [] vk_66 79 vc_66 356 5 = true := by decide +kernel
theorem vx_66_61 : vm_chk bt_69 [] vk_66 79 vc_66 361 4 = true := by decide +kernel
theorem vx_66_62 : vm_chk bt_69 [] vk_66 79 vc_66 365 8 = true := by decide +kernel
theorem vx_66_63 : vm_chk bt_69 [] vk_66 79 vc_66 373 8 = true := by decide +kernel
theorem vx_66_64 : vm_chk bt_69 [] vk_66 79 vc_66 381 4 = true := by decide +kernel
theorem vx_66_65 : vm_chk bt_69 [] vk_66 79 vc_66 385 4 = true := by decide +kernel
theorem vx_66_66 : vm_chk bt_69 [] vk_66 79 vc_66 389 8 = true := by decide +kernel
theorem vx_66_67 : vm_chk bt_69 [] vk_66 79 vc_66 397 7 = true := by decide +kernel
theorem vx_66_68 : vm_chk bt_69 [] vk_66 79 vc_66 404 7 = true := by decide +kernel
theorem vx_66_69 : vm_chk bt_69 [] vk_66 79 vc_66 411 7 = true := by decide +kernel
theorem vx_66_70 : vm_chk bt_69 [] vk_66 79 vc_66 418 8 = true := by decide +kernel
theorem vx_66_71 : vm_chk bt_69 [] vk_66 79 vc_66 426 6 = true := by decide +kernel
theorem vx_66_72 : vm_chk bt_69 [] vk_66 79 vc_66 432 8 = true := by decide +kernel
theorem vx_66_73 : vm_chk bt_69 [] vk_66 79 vc_66 440 5 = true := by decide +kernel
theorem vx_66_74 : vm_chk bt_69 [] vk_66 79 vc_66 445 7 = true := by decide +kernel
theorem vx_66_75 : vm_chk bt_69 [] vk_66 79 vc_66 452 5 = true := by decide +kernel
theorem vx_66_76 : vm_chk bt_69 [] vk_66 79 vc_66 457 6 = true := by decide +kernel
theorem vx_66_77 : vm_chk bt_69 [] vk_66 79 vc_66 463 5 = true := by decide +kernel
theorem vx_66_78 : vm_chk bt_69 [] vk_66 79 vc_66 468 3 = true := by decide +kernel
theorem vx_66_79 : vm_chk bt_69 [] vk_66 79 vc_66 471 7 = true := by decide +kernel
theorem vx_66_80 : vm_chk bt_69 [] vk_66 79 vc_66 478 7 = true := by decide +kernel
theorem vx_66_81 : vm_chk bt_69 [] vk_66 79 vc_66 485 6 = true := by decide +kernel
theorem vx_66_82 : vm_chk bt_69 [] vk_66 79 vc_66 491 5 = true := by decide +kernel
theorem vx_66_83 : vm_chk bt_69 [] vk_66 79 vc_66 496 5 = true := by decide +kernel
theorem vx_66_84 : vm_chk bt_69 [] vk_66 79 vc_66 501 4 = true := by decide +kernel
theorem vx_66_85 : vm_chk bt_69 [] vk_66 79 vc_66 505 5 = true := by decide +kernel
theorem vx_66_86 : vm_chk bt_69 [] vk_66 79 vc_66 510 4 = true := by decide +kernel
theorem vx_66_87 : vm_chk bt_69 [] vk_66 79 vc_66 514 3 = true := by decide +kernel
theorem vx_66_88 : vm_chk bt_69 [] vk_66 79 vc_66 517 8 = true := by decide +kernel
theorem vx_66_89 : vm_chk bt_69 [] vk_66 79 vc_66 525 5 = true := by decide +kernel
theorem vx_66_90 : vm_chk bt_69 [] vk_66 79 vc_66 530 4 = true := by decide +kernel
theorem vx_66_91 : vm_chk bt_69 [] vk_66 79 vc_66 534 8 = true := by decide +kernel
theorem vx_66_92 : vm_chk bt_69 [] vk_66 79 vc_66 542 8 = true := by decide +kernel
theorem vx_66_93 : vm_chk bt_69 [] vk_66 79 vc_66 550 4 = true := by decide +kernel
theorem vx_66_94 : vm_chk bt_69 [] vk_66 79 vc_66 554 4 = true := by decide +kernel
theorem vx_66_95 : vm_chk bt_69 [] vk_66 79 vc_66 558 8 = true := by decide +kernel
theorem vx_66_96 : vm_chk bt_69 [] vk_66 79 vc_66 566 7 = true := by decide +kernel
theorem vx_66_97 : vm_chk bt_69 [] vk_66 79 vc_66 573 7 = true := by decide +kernel
theorem vx_66_98 : vm_chk bt_69 [] vk_66 79 vc_66 580 7 = true := by decide +kernel
theorem vx_66_99 : vm_chk bt_69 [] vk_66 79 vc_66 587 8 = true := by decide +kernel
theorem vx_66_100 : vm_chk bt_69 [] vk_66 79 vc_66 595 6 = true := by decide +kernel
theorem vx_66_101 : vm_chk bt_69 [] vk_66 79 vc_66 601 8 = true := by decide +kernel
theorem vx_66_102 : vm_chk bt_69 [] vk_66 79 vc_66 609 5 = true := by decide +kernel
theorem vx_66_103 : vm_chk bt_69 [] vk_66 79 vc_66 614 7 = true := by decide +kernel
theorem vx_66_104 : vm_chk bt_69 [] vk_66 79 vc_66 621 5 = true := by decide +kernel
theorem vx_66_105 : vm_chk bt_69 [] vk_66 79 vc_66 626 6 = true := by decide +kernel
theorem vx_66_106 : vm_chk bt_69 [] vk_66 79 vc_66 632 5 = true := by decide +kernel
theorem vx_66_107 : vm_chk bt_69 [] vk_66 79 vc_66 637 3 = true := by decide +kernel
theorem vx_66_108 : vm_chk bt_69 [] vk_66 79 vc_66 640 7 = true := by decide +kernel
theorem vx_66_109 : vm_chk bt_69 [] vk_66 79 vc_66 647 7 = true := by decide +kernel
theorem vx_66_110 : vm_chk bt_69 [] vk_66 79 vc_66 654 6 = true := by decide +kernel
theorem vx_66_111 : vm_chk bt_69 [] vk_66 79 vc_66 660 5 = true := by decide +kernel
theorem vx_66_112 : vm_chk bt_69 [] vk_66 79 vc_66 665 5 = true := by decide +kernel
theorem vx_66_113 : vm_chk bt_69 [] vk_66 79 vc_66 670 4 = true := by decide +kernel
theorem vx_66_114 : vm_chk bt_69 [] vk_66 79 vc_66 674 5 = true := by decide +kernel
theorem vx_66_115 : vm_chk bt_69 [] vk_66 79 vc_66 679 4 = true := by decide +kernel
theorem vx_66_116 : vm_chk bt_69 [] vk_66 79 vc_66 683 3 = true := by decide +kernel
theorem vx_66_117 : vm_chk bt_69 [] vk_66 79 vc_66 686 8 = true := by decide +kernel
theorem vx_66_118 : vm_chk bt_69 [] vk_66 79 vc_66 694 5 = true := by decide +kernel
theorem vx_66_119 : vm_chk bt_69 [] vk_66 79 vc_66 699 4 = true := by decide +kernel
theorem vx_66_120 : vm_chk bt_69 [] vk_66 79 vc_66 703 8 = true := by decide +kernel
theorem vx_66_121 : vm_chk bt_69 [] vk_66 79 vc_66 711 8 = true := by decide +kernel
theorem vx_66_122 : vm_chk bt_69 [] vk_66 79 vc_66 719 4 = true := by decide +kernel
theorem vx_66_123 : vm_chk bt_69 [] vk_66 79 vc_66 723 4 = true := by decide +kernel
theorem vx_66_124 : vm_chk bt_69 [] vk_66 79 vc_66 727 8 = true := by decide +kernel
theorem vx_66_125 : vm_chk bt_69 [] vk_66 79 vc_66 735 7 = true := by decide +kernel
theorem vx_66_126 : vm_chk bt_69 [] vk_66 79 vc_66 742 7 = true := by decide +kernel
theorem vx_66_127 : vm_chk bt_69 [] vk_66 79 vc_66 749 7 = true := by decide +kernel
theorem vx_66_128 : vm_chk bt_69 [] vk_66 79 vc_66 756 8 = true := by decide +kernel
theorem vx_66_129 : vm_chk bt_69 [] vk_66 79 vc_66 764 6 = true := by decide +kernel
theorem vx_66_130 : vm_chk bt_69 [] vk_66 79 vc_66 770 8 = true := by decide +kernel
theorem vx_66_131 : vm_chk bt_69 [] vk_66 79 vc_66 778 5 = true := by decide +kernel
theorem vx_66_132 : vm_chk bt_69 [] vk_66 79 vc_66 783 7 = true := by decide +kernel
theorem vx_66_133 : vm_chk bt_69 [] vk_66 79 vc_66 790 5 = true := by decide +kernel
theorem vx_66_134 : vm_chk bt_69 [] vk_66 79 vc_66 795 6 = true := by decide +kernel
theorem vx_66_135 : vm_chk bt_69 [] vk_66 79 vc_66 801 5 = true := by decide +kernel
theorem vx_66_136 : vm_chk bt_69 [] vk_66 79 vc_66 806 3 = true := by decide +kernel
theorem vx_66_137 : vm_chk bt_69 [] vk_66 79 vc_66 809 7 = true := by decide +kernel
theorem vx_66_138 : vm_chk bt_69 [] vk_66 79 vc_66 816 7 = true := by decide +kernel
theorem vx_66_139 : vm_chk bt_69 [] vk_66 79 vc_66 823 6 = true := by decide +kernel
theorem vx_66_140 : vm_chk bt_69 [] vk_66 79 vc_66 829 5 = true := by decide +kernel
theorem vx_66_141 : vm_chk bt_69 [] vk_66 79 vc_66 834 5 = true := by decide +kernel
theorem vx_66_142 : vm_chk bt_69 [] vk_66 79 vc_66 839 4 = true := by decide +kernel
theorem vx_66_143 : vm_chk bt_69 [] vk_66 79 vc_66 843 5 = true := by decide +kernel
theorem vx_66_144 : vm_chk bt_69 [] vk_66 79 vc_66 848 4 = true := by decide +kernel
theorem vx_66_145 : vm_chk bt_69 [] vk_66 79 vc_66 852 3 = true := by decide +kernel
theorem vx_66_146 : vm_chk bt_69 [] vk_66 79 vc_66 855 8 = true := by decide +kernel
theorem vx_66_147 : vm_chk bt_69 [] vk_66 79 vc_66 863 5 = true := by decide +kernel
theorem vx_66_148 : vm_chk bt_69 [] vk_66 79 vc_66 868 4 = true := by decide +kernel
theorem vx_66_149 : vm_chk bt_69 [] vk_66 79 vc_66 872 8 = true := by decide +kernel
theorem vx_66_150 : vm_chk bt_69 [] vk_66 79 vc_66 880 8 = true := by decide +kernel
theorem vx_66_151 : vm_chk bt_69 [] vk_66 79 vc_66 888 4 = true := by decide +kernel
theorem vx_66_152 : vm_chk bt_69 [] vk_66 79 vc_66 892 4 = true := by decide +kernel
theorem vx_66_153 : vm_chk bt_69 [] vk_66 79 vc_66 896 8 = true := by decide +kernel
theorem vx_66_154 : vm_chk bt_69 [] vk_66 79 vc_66 904 7 = true := by decide +kernel
theorem vx_66_155 : vm_chk bt_69 [] vk_66 79 vc_66 911 7 = true := by decide +kernel
theorem vx_66_156 : vm_chk bt_69 [] vk_66 79 vc_66 918 7 = true := by decide +kernel
theorem vx_66_157 : vm_chk bt_69 [] vk_66 79 vc_66 925 8 = true := by decide +kernel
theorem vx_66_158 : vm_chk bt_69 [] vk_66 79 vc_66 933 6 = true := by decide +kernel
theorem vx_66_159 : vm_chk bt_69 [] vk_66 79 vc_66 939 8 = true := by decide +kernel
theorem vx_66_160 : vm_chk bt_69 [] vk_66 79 vc_66 947 5 = true := by decide +kernel
theorem vx_66_161 : vm_chk bt_69 [] vk_66 79 vc_66 952 7 = true := by decide +kernel
theorem vx_66_162 : vm_chk bt_69 [] vk_66 79 vc_66 959 5 = true := by decide +kernel
theorem vx_66_163 : vm_chk bt_69 [] vk_66 79 vc_66 964 6 = true := by decide +kernel
theorem vx_66_164 : vm_chk bt_69 [] vk_66 79 vc_66 970 5 = true := by decide +kernel
theorem vx_66_165 : vm_chk bt_69 [] vk_66 79 vc_66 975 3 = true := by decide +kernel
theorem vx_66_166 : vm_chk bt_69 [] vk_66 79 vc_66 978 7 = true := by decide +kernel
theorem vx_66_167 : vm_chk bt_69 [] vk_66 79 vc_66 985 7 = true := by decide +kernel
theorem vx_66_168 : vm_chk bt_69 [] vk_66 79 vc_66 992 6 = true := by decide +kernel
theorem vx_66_169 : vm_chk bt_69 [] vk_66 79 vc_66 998 5 = true := by decide +kernel
theorem vx_66_170 : vm_chk bt_69 [] vk_66 79 vc_66 1003 5 = true := by decide +kernel
theorem vx_66_171 : vm_chk bt_69 [] vk_66 79 vc_66 1008 4 = true := by decide +kernel
theorem vx_66_172 : vm_chk bt_69 [] vk_66 79 vc_66 1012 5 = true := by decide +kernel
theorem vx_66_173 : vm_chk bt_69 [] vk_66 79 vc_66 1017 4 = true := by decide +kernel
theorem vx_66_174 : vm_chk bt_69 [] vk_66 79 vc_66 1021 2 = true := by decide +kernel
theorem vy_66 : vm_ents 69 79 vc_66 ve_66 = true := by decide +kernel
theorem vgr_66_0 (i : Nat) : i < 242 → ∃ lo k, lo ≤ i ∧ i < lo + k ∧ vm_chk bt_69 [] vk_66 79 vc_66 lo k = true := vm_hc vx_66_39 rfl (vm_hc vx_66_38 rfl (vm_hc vx_66_37 rfl (vm_hc vx_66_36 rfl (vm_hc vx_66_35 rfl (vm_hc vx_66_34 rfl (vm_hc vx_66_33 rfl (vm_hc vx_66_32 rfl (vm_hc vx_66_31 rfl (vm_hc vx_66_30 rfl (vm_hc vx_66_29 rfl (vm_hc vx_66_28 rfl (vm_hc vx_66_27 rfl (vm_hc vx_66_26 rfl (vm_hc vx_66_25 rfl (vm_hc vx_66_24 rfl (vm_hc vx_66_23 rfl (vm_hc vx_66_22 rfl (vm_hc vx_66_21 rfl (vm_hc vx_66_20 rfl (vm_hc vx_66_19 rfl (vm_hc vx_66_18 rfl (vm_hc vx_66_17 rfl (vm_hc vx_66_16 rfl (vm_hc vx_66_15 rfl (vm_hc vx_66_14 rfl (vm_hc vx_66_13 rfl (vm_hc vx_66_12 rfl (vm_hc vx_66_11 rfl (vm_hc vx_66_10 rfl (vm_hc vx_66_9 rfl (vm_hc vx_66_8 rfl (vm_hc vx_66_7 rfl (vm_hc vx_66_6 rfl (vm_hc vx_66_5 rfl (vm_hc vx_66_4 rfl (vm_hc vx_66_3 rfl (vm_hc vx_66_2 rfl (vm_hc vx_66_1 rfl (vm_hc vx_66_0 rfl (fun h => absurd h (Nat.not_lt_zero _)))))))))))))))))))))))))))))))))))))))))
theorem vgr_66_1 (i : Nat) : i < 478 → ∃ lo k, lo ≤ i ∧ i < lo + k ∧ vm_chk bt_69 [] vk_66 79 vc_66 lo k = true := vm_hc vx_66_79 rfl (vm_hc vx_66_78 rfl (vm_hc vx_66_77 rfl (vm_hc vx_66_76 rfl (vm_hc vx_66_75 rfl (vm_hc vx_66_74 rfl (vm_hc vx_66_73 rfl (vm_hc vx_66_72 rfl (vm_hc vx_66_71 rfl (vm_hc vx_66_70 rfl (vm_hc vx_66_69 rfl (vm_hc vx_66_68 rfl (vm_hc vx_66_67 rfl (vm_hc vx_66_66 rfl (vm_hc vx_66_65 rfl (vm_hc vx_66_64 rfl (vm_hc vx_66_63 rfl (vm_hc vx_66_62 rfl (vm_hc vx_66_61 rfl (vm_hc vx_66_60 rfl (vm_hc vx_66_59 rfl (vm_hc vx_66_58 rfl (vm_hc vx_66_57 rfl (vm_hc vx_66_56 rfl (vm_hc vx_66_55 rfl (vm_hc vx_66_54 rfl (vm_hc vx_66_53 rfl (vm_hc vx_66_52 rfl (vm_hc vx_66_51 rfl (vm_hc vx_66_50 rfl (vm_hc vx_66_49 rfl (vm_hc vx_66_48 rfl (vm_hc vx_66_47 rfl (vm_hc vx_66_46 rfl (vm_hc vx_66_45 rfl (vm_hc vx_66_44 rfl (vm_hc vx_66_43 rfl (vm_hc vx_66_42 rfl (vm_hc vx_66_41 rfl (vm_hc vx_66_40 rfl (vgr_66_0 i))))))))))))))))))))))))))))))))))))))))
theorem vgr_66_2 (i : Nat) : i < 703 → ∃ lo k, lo ≤ i ∧ i < lo + k ∧ vm_chk bt_69 [] vk_66 79 vc_66 lo k = true := vm_hc vx_66_119 rfl (vm_hc vx_66_118 rfl (vm_hc vx_66_117 rfl (vm_hc vx_66_116 rfl (vm_hc vx_66_115 rfl (vm_hc vx_66_114 rfl (vm_hc vx_66_113 rfl (vm_hc vx_66_112 rfl (vm_hc vx_66_111 rfl (vm_hc vx_66_110 rfl (vm_hc vx_66_109 rfl (vm_hc vx_66_108 rfl (vm_hc vx_66_107 rfl (vm_hc vx_66_106 rfl (vm_hc vx_66_105 rfl (vm_hc vx_66_104 rfl (vm_hc vx_66_103 rfl (vm_hc vx_66_102 rfl (vm_hc vx_66_101 rfl (vm_hc vx_66_100 rfl (vm_hc vx_66_99 rfl (vm_hc vx_66_98 rfl (vm_hc vx_66_97 rfl (vm_hc vx_66_96 rfl (vm_hc vx_66_95 rfl (vm_hc vx_66_94 rfl (vm_hc vx_66_93 rfl (vm_hc vx_66_92 rfl (vm_hc vx_66_91 rfl (vm_hc vx_66_90 rfl (vm_hc vx_66_89 rfl (vm_hc vx_66_88 rfl (vm_hc vx_66_87 rfl (vm_hc vx_66_86 rfl (vm_hc vx_66_85 rfl (vm_hc vx_66_84 rfl (vm_hc vx_66_83 rfl (vm_hc vx_66_82 rfl (vm_hc vx_66_81 rfl (vm_hc vx_66_80 rfl (vgr_66_1 i))))))))))))))))))))))))))))))))))))))))
theorem vgr_66_3 (i : Nat) : i < 947 → ∃ lo k, lo ≤ i ∧ i < lo + k ∧ vm_chk bt_69 [] vk_66 79 vc_66 lo k = true := vm_hc vx_66_159 rfl (vm_hc vx_66_158 rfl (vm_hc vx_66_157 rfl (vm_hc vx_66_156 rfl (vm_hc vx_66_155 rfl (vm_hc vx_66_154 rfl (vm_hc vx_66_153 rfl (vm_hc vx_66_152 rfl (vm_hc vx_66_151 rfl (vm_hc vx_66_150 rfl (vm_hc vx_66_149 rfl (vm_hc vx_66_148 rfl (vm_hc vx_66_147 rfl (vm_hc vx_66_146 rfl (vm_hc vx_66_145 rfl (vm_hc vx_66_144 rfl (vm_hc vx_66_143 rfl (vm_hc vx_66_142 rfl (vm_hc vx_66_141 rfl (vm_hc vx_66_140 rfl (vm_hc vx_66_139 rfl (vm_hc vx_66_138 rfl (vm_hc vx_66_137 rfl (vm_hc vx_66_136 rfl (vm_hc vx_66_135 rfl (vm_hc vx_66_134 rfl (vm_hc vx_66_133 rfl (vm_hc vx_66_132 rfl (vm_hc vx_66_131 rfl (vm_hc vx_66_130 rfl (vm_hc vx_66_129 rfl (vm_hc vx_66_128 rfl (vm_hc vx_66_127 rfl (vm_hc vx_66_126 rfl (vm_hc vx_66_125 rfl (vm_hc vx_66_124 rfl (vm_hc vx_66_123 rfl (vm_hc vx_66_122 rfl (vm_hc vx_66_121 rfl (vm_hc vx_66_120 rfl (vgr_66_2 i))))))))))))))))))))))))))))))))))))))))
theorem vgr_66_4 (i : Nat) : i < 1023 → ∃ lo k, lo ≤ i ∧ i < lo + k ∧ vm_chk bt_69 [] vk_66 79 vc_66 lo k = true := vm_hc vx_66_174 rfl (vm_hc vx_66_173 rfl (vm_hc vx_66_172 rfl (vm_hc vx_66_171 rfl (vm_hc vx_66_170 rfl (vm_hc vx_66_169 rfl (vm_hc vx_66_168 rfl (vm_hc vx_66_167 rfl (vm_hc vx_66_166 rfl (vm_hc vx_66_165 rfl (vm_hc vx_66_164 rfl (vm_hc vx_66_163 rfl (vm_hc vx_66_162 rfl (vm_hc vx_66_161 rfl (vm_hc vx_66_160 rfl (vgr_66_3 i)))))))))))))))
theorem vw_66 : ∀ q ∈ vk_66, vm_wt 1 q := vm_wts vm_kn (by decide +kernel)
theorem v_66 : vm_at 2 q_66 := vm_ok (inl := []) (es := ve_66) bq_69 (by decide) vw_66 vy_66 (fun i => vgr_66_4 i) _ List.mem_cons_self
noncomputable def vp_67 : List vm_R := [(none, va_h0)]
noncomputable def ve_67 : List vm_E := [([.inr (.inr (some 28)), .inr (.inr (some 35))], va_h0, 0, [0])]
noncomputable def q_67 : vm_Q := (70, [.inr (.inr (some 28)), .inr (.inr (some 35))], va_h0, vp_67)
noncomputable def vk_67 : List vm_U := [(q_59, true, []), (q_1, true, [])]
noncomputable def vf_67 : List ((Nat → am_I) → vm_A) := [fun v => (0, [(0, .inr (.inr (some 28))), (1, .inr (.inr (some 35)))], [], (80, [])), fun v => (7, [(0, .inr (.inr (some 28))), (1, .inr (.inr (some 35))), (2, .inl (v 0))], [], (80, []))]
noncomputable def vd_67_0_0 : List (List Nat) := [[65536, 65537, 4295032833, 8590000129, 12884967425, 17179934721, 21474902017, 100663297]]
noncomputable def vd_67_0 : List (List (List Nat)) := [vd_67_0_0]
noncomputable def vd_67 : List (List (List (List Nat))) := [vd_67_0]
noncomputable def vt_67 : List (List am_I) := []
noncomputable def vc_67 : vm_C := (fun _ => vp_67, fun pc => [], [7], 8, vm_inst 8 7 vt_67 vf_67 vd_67)
theorem vx_67_0 : vm_chk bt_70 [] vk_67 42 vc_67 0 6 = true := by decide +kernel
theorem vx_67_1 : vm_chk bt_70 [] vk_67 42 vc_67 6 2 = true := by decide +kernel
theorem vy_67 : vm_ents 70 42 vc_67 ve_67 = true := by decide +kernel
theorem vw_67 : ∀ q ∈ vk_67, vm_wt 3 q := vm_wts (vm_kc (vm_up v_59 rfl) (vm_kc (vm_up v_1 rfl) vm_kn)) (by decide +kernel)
theorem v_67 : vm_at 4 q_67 := vm_ok (inl := []) (es := ve_67) bq_70 (by decide) vw_67 vy_67 (fun i => vm_hc vx_67_1 rfl (vm_hc vx_67_0 rfl (fun h => absurd h (Nat.not_lt_zero _)))) _ List.mem_cons_self
noncomputable def vp_68 : List vm_R := [(none, va_h0)]
noncomputable def ve_68 : List vm_E := [([.inr (.inr (some 28)), .inr (.inr (some 35))], va_h0, 0, [0])]
noncomputable def q_68 : vm_Q := (68, [.inr (.inr (some 28)), .inr (.inr (some 35))], va_h0, vp_68)
noncomputable def vk_68 : List vm_U := [(q_65, false, []), (q_66, false, []), (q_67, false, [])]
noncomputable def vf_68 : List ((Nat → am_I) → vm_A) := [fun v => (0, [(0, .inr (.inr (some 28))), (1, .inr (.inr (some 35)))], [], (80, []))]
noncomputable def vd_68_0_0 : List (List Nat) := [[0]]
noncomputable def vd_68_0 : List (List (List Nat)) := [vd_68_0_0]
noncomputable def vd_68 : List (List (List (List Nat))) := [vd_68_0]
noncomputable def vt_68 : List (List am_I) := []
noncomputable def vc_68 : vm_C := (fun _ => vp_68, fun pc => [], [], 1, vm_inst 8 1 vt_68 vf_68 vd_68)
theorem vx_68_0 : vm_chk bt_68 [] vk_68 18 vc_68 0 1 = true := by decide +kernel
theorem vy_68 : vm_ents 68 18 vc_68 ve_68 = true := by decide +kernel
theorem vw_68 : ∀ q ∈ vk_68, vm_wt 4 q := vm_wts (vm_kc (vm_up v_65 rfl) (vm_kc (vm_up v_66 rfl) (vm_kc (vm_up v_67 rfl) vm_kn))) (by decide +kernel)
theorem v_68 : vm_at 5 q_68 := vm_ok (inl := []) (es := ve_68) bq_68 (by decide) vw_68 vy_68 (fun i => vm_hc vx_68_0 rfl (fun h => absurd h (Nat.not_lt_zero _))) _ List.mem_cons_self
noncomputable def vp_69 : List vm_R := [(none, va_h0)]
noncomputable def ve_69 : List vm_E := [([.inr (.inr (some 28)), .inr (.inr (some 35)), .inl (.ofNat 0, .ofNat 60)], va_h0, 0, [0])]
noncomputable def q_69 : vm_Q := (76, [.inr (.inr (some 28)), .inr (.inr (some 35)), .inl (.ofNat 0, .ofNat 60)], va_h0, vp_69)
noncomputable def vk_69 : List vm_U := [(q_68, false, []), (q_62, true, [])]
noncomputable def vf_69 : List ((Nat → am_I) → vm_A) := [fun v => (0, [(0, .inr (.inr (some 28))), (1, .inr (.inr (some 35))), (2, .inl (.ofNat 0, .ofNat 60))], [], (80, [])), fun v => (10, [(0, .inr (.inr (some 28))), (1, .inr (.inr (some 35))), (2, .inl (.ofNat 0, .ofNat 60)), (3, .inl am_top), (4, .inl (v 0))], [], (80, []))]
noncomputable def vd_69_0_0 : List (List Nat) := [[65536, 65537, 4295032833, 8590000129, 12884967425, 17179934721, 21474902017, 25769869313], [30064836609, 34359803905, 38654771201, 42949738497, 47244705793, 51539673089, 55834640385, 60129607681], [64424574977, 68719542273, 73014509569, 77309476865, 81604444161, 85899411457, 90194378753, 94489346049], [98784313345, 103079280641, 107374247937, 111669215233, 115964182529, 120259149825, 124554117121, 128849084417], [133144051713, 137439019009, 141733986305, 146028953601, 150323920897, 154618888193, 158913855489, 163208822785], [167503790081, 171798757377, 176093724673, 180388691969, 184683659265, 188978626561, 193273593857, 197568561153], [201863528449, 206158495745, 210453463041, 214748430337, 219043397633, 223338364929, 227633332225, 231928299521], [236223266817, 240518234113, 244813201409, 249108168705, 253403136001, 1006632961]]
noncomputable def vd_69_0 : List (List (List Nat)) := [vd_69_0_0]
noncomputable def vd_69 : List (List (List (List Nat))) := [vd_69_0]
noncomputable def vt_69 : List (List am_I) := []
noncomputable def vc_69 : vm_C := (fun _ => vp_69, fun pc => [], [10], 62, vm_inst 8 61 vt_69 vf_69 vd_69)
theorem vx_69_0 : vm_chk bt_76 [] vk_69 16 vc_69 0 11 = true := by decide +kernel
theorem vx_69_1 : vm_chk bt_76 [] vk_69 16 vc_69 11 10 = true := by decide +kernel
theorem vx_69_2 : vm_chk bt_76 [] vk_69 16 vc_69 21 10 = true := by decide +kernel
theorem vx_69_3 : vm_chk bt_76 [] vk_69 16 vc_69 31 10 = true := by decide +kernel
theorem vx_69_4 : vm_chk bt_76 [] vk_69 16 vc_69 41 10 = true := by decide +kernel
theorem vx_69_5 : vm_chk bt_76 [] vk_69 16 vc_69 51 10 = true := by decide +kernel
theorem vx_69_6 : vm_chk bt_76 [] vk_69 16 vc_69 61 1 = true := by decide +kernel
theorem vy_69 : vm_ents 76 16 vc_69 ve_69 = true := by decide +kernel
theorem vw_69 : ∀ q ∈ vk_69, vm_wt 5 q := vm_wts (vm_kc (vm_up v_68 rfl) (vm_kc (vm_up v_62 rfl) vm_kn)) (by decide +kernel)
theorem v_69 : vm_at 6 q_69 := vm_ok (inl := []) (es := ve_69) bq_76 (by decide) vw_69 vy_69 (fun i => vm_hc vx_69_6 rfl (vm_hc vx_69_5 rfl (vm_hc vx_69_4 rfl (vm_hc vx_69_3 rfl (vm_hc vx_69_2 rfl (vm_hc vx_69_1 rfl (vm_hc vx_69_0 rfl (fun h => absurd h (Nat.not_lt_zero _))))))))) _ List.mem_cons_self
noncomputable def vp_70 : List vm_R := [(some (.inl (.ofNat 0, .ofNat 1)), va_h0)]
noncomputable def ve_70 : List vm_E := [([.inr (.inr (some 28)), .inl (.ofNat 0, .ofNat 4)], va_h0, 0, [0])]
noncomputable def q_70 : vm_Q := (73, [.inr (.inr (some 28)), .inl (.ofNat 0, .ofNat 4)], va_h0, vp_70)
noncomputable def vk_70 : List vm_U := []
noncomputable def vf_70 : List ((Nat → am_I) → vm_A) := [fun v => (0, [(0, .inr (.inr (some 28))), (1, .inl (.ofNat 0, .ofNat 4))], [], (80, []))]
noncomputable def vd_70_0_0 : List (List Nat) := [[0]]
noncomputable def vd_70_0 : List (List (List Nat)) := [vd_70_0_0]
noncomputable def vd_70 : List (List (List (List Nat))) := [vd_70_0]
noncomputable def vt_70 : List (List am_I) := []
noncomputable def vc_70 : vm_C := (fun _ => vp_70, fun pc => [], [], 1, vm_inst 8 1 vt_70 vf_70 vd_70)
theorem vx_70_0 : vm_chk bt_73 [] vk_70 12 vc_70 0 1 = true := by decide +kernel
theorem vy_70 : vm_ents 73 12 vc_70 ve_70 = true := by decide +kernel
theorem vw_70 : ∀ q ∈ vk_70, vm_wt 1 q := vm_wts vm_kn (by decide +kernel)
theorem v_70 : vm_at 2 q_70 := vm_ok (inl := []) (es := ve_70) bq_73 (by decide) vw_70 vy_70 (fun i => vm_hc vx_70_0 rfl (fun h => absurd h (Nat.not_lt_zero _))) _ List.mem_cons_self
noncomputable def vp_71 : List vm_R := [(some (.inl am_top), va_h0)]
noncomputable def ve_71 : List vm_E := [([.inr (.inr (some 28)), .inl (.ofNat 0, .ofNat 4)], va_h0, 0, [0])]
noncomputable def q_71 : vm_Q := (123, [.inr (.inr (some 28)), .inl (.ofNat 0, .ofNat 4)], va_h0, vp_71)
noncomputable def vk_71 : List vm_U := [(q_70, true, [])]
noncomputable def vf_71 : List ((Nat → am_I) → vm_A) := [fun v => (0, [(0, .inr (.inr (some 28))), (1, .inl (.ofNat 0, .ofNat 4))], [], (80, []))]
noncomputable def vd_71_0_0 : List (List Nat) := [[0]]
noncomputable def vd_71_0 : List (List (List Nat)) := [vd_71_0_0]
noncomputable def vd_71 : List (List (List (List Nat))) := [vd_71_0]
noncomputable def vt_71 : List (List am_I) := []
noncomputable def vc_71 : vm_C := (fun _ => vp_71, fun pc => [], [], 1, vm_inst 8 1 vt_71 vf_71 vd_71)
theorem vx_71_0 : vm_chk bt_123 [] vk_71 12 vc_71 0 1 = true := by decide +kernel
theorem vy_71 : vm_ents 123 12 vc_71 ve_71 = true := by decide +kernel
theorem vw_71 : ∀ q ∈ vk_71, vm_wt 2 q := vm_wts (vm_kc (vm_up v_70 rfl) vm_kn) (by decide +kernel)
theorem v_71 : vm_at 3 q_71 := vm_ok (inl := []) (es := ve_71) bq_123 (by decide) vw_71 vy_71 (fun i => vm_hc vx_71_0 rfl (fun h => absurd h (Nat.not_lt_zero _))) _ List.mem_cons_self
noncomputable def vp_72 : List vm_R := [(some (.inr (.inr (some 35))), va_h0)]
noncomputable def ve_72 : List vm_E := [([.inr (.inr (some 34)), .inr (.inr (some 20)), .inl (.ofNat 0, .ofNat 60)], va_h0, 0, [0])]
noncomputable def q_72 : vm_Q := (80, [.inr (.inr (some 34)), .inr (.inr (some 20)), .inl (.ofNat 0, .ofNat 60)], va_h0, vp_72)
noncomputable def vk_72 : List vm_U := [(q_38, false, []), (q_69, false, [(4, 27, 3)])]
noncomputable def vf_72 : List ((Nat → am_I) → vm_A) := [fun v => (0, [(0, .inr (.inr (some 34))), (1, .inr (.inr (some 20))), (2, .inl (.ofNat 0, .ofNat 60))], [], (80, []))]
noncomputable def vd_72_0_0 : List (List Nat) := [[0]]
noncomputable def vd_72_0 : List (List (List Nat)) := [vd_72_0_0]
noncomputable def vd_72 : List (List (List (List Nat))) := [vd_72_0]
noncomputable def vt_72 : List (List am_I) := []
noncomputable def vc_72 : vm_C := (fun _ => vp_72, fun pc => [], [], 1, vm_inst 8 1 vt_72 vf_72 vd_72)
theorem vx_72_0 : vm_chk bt_80 [] vk_72 15 vc_72 0 1 = true := by decide +kernel
theorem vy_72 : vm_ents 80 15 vc_72 ve_72 = true := by decide +kernel
theorem vw_72 : ∀ q ∈ vk_72, vm_wt 6 q := vm_wts (vm_kc (vm_up v_38 rfl) (vm_kc (vm_up v_69 rfl) vm_kn)) (by decide +kernel)
theorem v_72 : vm_at 7 q_72 := vm_ok (inl := []) (es := ve_72) bq_80 (by decide) vw_72 vy_72 (fun i => vm_hc vx_72_0 rfl (fun h => absurd h (Nat.not_lt_zero _))) _ List.mem_cons_self
noncomputable def vp_73 : List vm_R := [(some (.inl (.ofNat 0, .ofNat 1)), va_h0)]
noncomputable def ve_73 : List vm_E := [([.inr (.inr (some 28)), .inl (.ofNat 0, .ofNat 0)], va_h0, 0, [0])]
noncomputable def q_73 : vm_Q := (73, [.inr (.inr (some 28)), .inl (.ofNat 0, .ofNat 0)], va_h0, vp_73)
noncomputable def vk_73 : List vm_U := []
noncomputable def vf_73 : List ((Nat → am_I) → vm_A) := [fun v => (0, [(0, .inr (.inr (some 28))), (1, .inl (.ofNat 0, .ofNat 0))], [], (80, []))]
noncomputable def vd_73_0_0 : List (List Nat) := [[0]]
noncomputable def vd_73_0 : List (List (List Nat)) := [vd_73_0_0]
noncomputable def vd_73 : List (List (List (List Nat))) := [vd_73_0]
noncomputable def vt_73 : List (List am_I) := []
noncomputable def vc_73 : vm_C := (fun _ => vp_73, fun pc => [], [], 1, vm_inst 8 1 vt_73 vf_73 vd_73)
theorem vx_73_0 : vm_chk bt_73 [] vk_73 12 vc_73 0 1 = true := by decide +kernel
theorem vy_73 : vm_ents 73 12 vc_73 ve_73 = true := by decide +kernel
theorem vw_73 : ∀ q ∈ vk_73, vm_wt 1 q := vm_wts vm_kn (by decide +kernel)
theorem v_73 : vm_at 2 q_73 := vm_ok (inl := []) (es := ve_73) bq_73 (by decide) vw_73 vy_73 (fun i => vm_hc vx_73_0 rfl (fun h => absurd h (Nat.not_lt_zero _))) _ List.mem_cons_self
noncomputable def vp_74 : List vm_R := [(some (.inl (.ofNat 0, .ofNat 1)), va_h0)]
noncomputable def ve_74 : List vm_E := [([.inr (.inr (some 28)), .inl (.ofNat 1, .ofNat 1)], va_h0, 0, [0])]
noncomputable def q_74 : vm_Q := (73, [.inr (.inr (some 28)), .inl (.ofNat 1, .ofNat 1)], va_h0, vp_74)
noncomputable def vk_74 : List vm_U := []
noncomputable def vf_74 : List ((Nat → am_I) → vm_A) := [fun v => (0, [(0, .inr (.inr (some 28))), (1, .inl (.ofNat 1, .ofNat 1))], [], (80, []))]
noncomputable def vd_74_0_0 : List (List Nat) := [[0]]
noncomputable def vd_74_0 : List (List (List Nat)) := [vd_74_0_0]
noncomputable def vd_74 : List (List (List (List Nat))) := [vd_74_0]
noncomputable def vt_74 : List (List am_I) := []
noncomputable def vc_74 : vm_C := (fun _ => vp_74, fun pc => [], [], 1, vm_inst 8 1 vt_74 vf_74 vd_74)
theorem vx_74_0 : vm_chk bt_73 [] vk_74 12 vc_74 0 1 = true := by decide +kernel
theorem vy_74 : vm_ents 73 12 vc_74 ve_74 = true := by decide +kernel
theorem vw_74 : ∀ q ∈ vk_74, vm_wt 1 q := vm_wts vm_kn (by decide +kernel)
theorem v_74 : vm_at 2 q_74 := vm_ok (inl := []) (es := ve_74) bq_73 (by decide) vw_74 vy_74 (fun i => vm_hc vx_74_0 rfl (fun h => absurd h (Nat.not_lt_zero _))) _ List.mem_cons_self
noncomputable def vp_75 : List vm_R := [(some (.inl (.ofNat 0, .ofNat 1)), va_h0)]
noncomputable def ve_75 : List vm_E := [([.inr (.inr (some 28)), .inl (.ofNat 2, .ofNat 2)], va_h0, 0, [0])]
noncomputable def q_75 : vm_Q := (73, [.inr (.inr (some 28)), .inl (.ofNat 2, .ofNat 2)], va_h0, vp_75)
noncomputable def vk_75 : List vm_U := []
noncomputable def vf_75 : List ((Nat → am_I) → vm_A) := [fun v => (0, [(0, .inr (.inr (some 28))), (1, .inl (.ofNat 2, .ofNat 2))], [], (80, []))]
noncomputable def vd_75_0_0 : List (List Nat) := [[0]]
noncomputable def vd_75_0 : List (List (List Nat)) := [vd_75_0_0]
noncomputable def vd_75 : List (List (List (List Nat))) := [vd_75_0]
noncomputable def vt_75 : List (List am_I) := []
noncomputable def vc_75 : vm_C := (fun _ => vp_75, fun pc => [], [], 1, vm_inst 8 1 vt_75 vf_75 vd_75)
theorem vx_75_0 : vm_chk bt_73 [] vk_75 12 vc_75 0 1 = true := by decide +kernel
theorem vy_75 : vm_ents 73 12 vc_75 ve_75 = true := by decide +kernel
theorem vw_75 : ∀ q ∈ vk_75, vm_wt 1 q := vm_wts vm_kn (by decide +kernel)
theorem v_75 : vm_at 2 q_75 := vm_ok (inl := []) (es := ve_75) bq_73 (by decide) vw_75 vy_75 (fun i => vm_hc vx_75_0 rfl (fun h => absurd h (Nat.not_lt_zero _))) _ List.mem_cons_self
noncomputable def vp_76 : List vm_R := [(some (.inl (.ofNat 0, .ofNat 1)), va_h0)]
noncomputable def ve_76 : List vm_E := [([.inr (.inr (some 28)), .inl (.ofNat 3, .ofNat 3)], va_h0, 0, [0])]
noncomputable def q_76 : vm_Q := (73, [.inr (.inr (some 28)), .inl (.ofNat 3, .ofNat 3)], va_h0, vp_76)
noncomputable def vk_76 : List vm_U := []
noncomputable def vf_76 : List ((Nat → am_I) → vm_A) := [fun v => (0, [(0, .inr (.inr (some 28))), (1, .inl (.ofNat 3, .ofNat 3))], [], (80, []))]
noncomputable def vd_76_0_0 : List (List Nat) := [[0]]
noncomputable def vd_76_0 : List (List (List Nat)) := [vd_76_0_0]
noncomputable def vd_76 : List (List (List (List Nat))) := [vd_76_0]
noncomputable def vt_76 : List (List am_I) := []
noncomputable def vc_76 : vm_C := (fun _ => vp_76, fun pc => [], [], 1, vm_inst 8 1 vt_76 vf_76 vd_76)
theorem vx_76_0 : vm_chk bt_73 [] vk_76 12 vc_76 0 1 = true := by decide +kernel
theorem vy_76 : vm_ents 73 12 vc_76 ve_76 = true := by decide +kernel
theorem vw_76 : ∀ q ∈ vk_76, vm_wt 1 q := vm_wts vm_kn (by decide +kernel)
theorem v_76 : vm_at 2 q_76 := vm_ok (inl := []) (es := ve_76) bq_73 (by decide) vw_76 vy_76 (fun i => vm_hc vx_76_0 rfl (fun h => absurd h (Nat.not_lt_zero _))) _ List.mem_cons_self
noncomputable def vp_77 : List vm_R := [(some (.inl (.ofNat 0, .ofNat 1)), va_h0)]
noncomputable def ve_77 : List vm_E := [([.inr (.inr (some 28)), .inl (.ofNat 4, .ofNat 4)], va_h0, 0, [0])]
noncomputable def q_77 : vm_Q := (73, [.inr (.inr (some 28)), .inl (.ofNat 4, .ofNat 4)], va_h0, vp_77)
noncomputable def vk_77 : List vm_U := []
noncomputable def vf_77 : List ((Nat → am_I) → vm_A) := [fun v => (0, [(0, .inr (.inr (some 28))), (1, .inl (.ofNat 4, .ofNat 4))], [], (80, []))]
noncomputable def vd_77_0_0 : List (List Nat) := [[0]]
noncomputable def vd_77_0 : List (List (List Nat)) := [vd_77_0_0]
noncomputable def vd_77 : List (List (List (List Nat))) := [vd_77_0]
noncomputable def vt_77 : List (List am_I) := []
noncomputable def vc_77 : vm_C := (fun _ => vp_77, fun pc => [], [], 1, vm_inst 8 1 vt_77 vf_77 vd_77)
theorem vx_77_0 : vm_chk bt_73 [] vk_77 12 vc_77 0 1 = true := by decide +kernel
theorem vy_77 : vm_ents 73 12 vc_77 ve_77 = true := by decide +kernel
theorem vw_77 : ∀ q ∈ vk_77, vm_wt 1 q := vm_wts vm_kn (by decide +kernel)
theorem v_77 : vm_at 2 q_77 := vm_ok (inl := []) (es := ve_77) bq_73 (by decide) vw_77 vy_77 (fun i => vm_hc vx_77_0 rfl (fun h => absurd h (Nat.not_lt_zero _))) _ List.mem_cons_self
noncomputable def vp_78 : List vm_R := [(some (.inl am_top), va_h0)]
noncomputable def ve_78 : List vm_E := [([.inr (.inr (some 34)), .inr (.inr (some 20))], va_h0, 0, [0])]
noncomputable def q_78 : vm_Q := (67, [.inr (.inr (some 34)), .inr (.inr (some 20))], va_h0, vp_78)
noncomputable def vk_78 : List vm_U := [(q_38, false, []), (q_68, false, [(4, 27, 3)]), (q_73, true, []), (q_74, true, []), (q_75, true, []), (q_76, true, []), (q_77, true, [])]
noncomputable def vf_78 : List ((Nat → am_I) → vm_A) := [fun v => (0, [(0, .inr (.inr (some 34))), (1, .inr (.inr (some 20)))], [], (80, [])), fun v => (23, [(0, .inr (.inr (some 34))), (1, .inr (.inr (some 20))), (2, .inl (v 0)), (3, .inl (v 1))], [], (80, []))]
noncomputable def vd_78_0_0 : List (List Nat) := [[65536, 65537, 1125281497089, 2229088092161, 3328599719937, 4428111347713, 21592276993]]
noncomputable def vd_78_0 : List (List (List Nat)) := [vd_78_0_0]
noncomputable def vd_78 : List (List (List (List Nat))) := [vd_78_0]
noncomputable def vt_78 : List (List am_I) := [[(.ofNat 0, .ofNat 1), am_top]]
noncomputable def vc_78 : vm_C := (fun _ => vp_78, fun pc => [], [23], 7, vm_inst 8 6 vt_78 vf_78 vd_78)
theorem vx_78_0 : vm_chk bt_67 [] vk_78 27 vc_78 0 7 = true := by decide +kernel
theorem vy_78 : vm_ents 67 27 vc_78 ve_78 = true := by decide +kernel
theorem vw_78 : ∀ q ∈ vk_78, vm_wt 5 q := vm_wts (vm_kc (vm_up v_38 rfl) (vm_kc (vm_up v_68 rfl) (vm_kc (vm_up v_73 rfl) (vm_kc (vm_up v_74 rfl) (vm_kc (vm_up v_75 rfl) (vm_kc (vm_up v_76 rfl) (vm_kc (vm_up v_77 rfl) vm_kn))))))) (by decide +kernel)
theorem v_78 : vm_at 6 q_78 := vm_ok (inl := []) (es := ve_78) bq_67 (by decide) vw_78 vy_78 (fun i => vm_hc vx_78_0 rfl (fun h => absurd h (Nat.not_lt_zero _))) _ List.mem_cons_self
noncomputable def vp_79 : List vm_R := [(some (.inl (.ofNat 0, .ofNat 1)), va_h0)]
noncomputable def ve_79 : List vm_E := [([.inr (.inr (some 34))], va_h0, 0, [0])]
noncomputable def q_79 : vm_Q := (83, [.inr (.inr (some 34))], va_h0, vp_79)
noncomputable def vk_79 : List vm_U := [(q_68, false, []), (q_62, true, [])]
noncomputable def vf_79 : List ((Nat → am_I) → vm_A) := [fun v => (0, [(0, .inr (.inr (some 34)))], [], (80, []))]
noncomputable def vd_79_0_0 : List (List Nat) := [[0]]
noncomputable def vd_79_0 : List (List (List Nat)) := [vd_79_0_0]
noncomputable def vd_79 : List (List (List (List Nat))) := [vd_79_0]
noncomputable def vt_79 : List (List am_I) := []
noncomputable def vc_79 : vm_C := (fun _ => vp_79, fun pc => [], [], 1, vm_inst 8 1 vt_79 vf_79 vd_79)
theorem vx_79_0 : vm_chk bt_83 [] vk_79 11 vc_79 0 1 = true := by decide +kernel
theorem vy_79 : vm_ents 83 11 vc_79 ve_79 = true := by decide +kernel
theorem vw_79 : ∀ q ∈ vk_79, vm_wt 5 q := vm_wts (vm_kc (vm_up v_68 rfl) (vm_kc (vm_up v_62 rfl) vm_kn)) (by decide +kernel)
theorem v_79 : vm_at 6 q_79 := vm_ok (inl := []) (es := ve_79) bq_83 (by decide) vw_79 vy_79 (fun i => vm_hc vx_79_0 rfl (fun h => absurd h (Nat.not_lt_zero _))) _ List.mem_cons_self
noncomputable def vp_80 : List vm_R := [(some (.inl (.negSucc 3, .ofNat 60)), va_h0)]
noncomputable def ve_80 : List vm_E := [([.inr (.inr (some 34)), .inr (.inr (some 20))], va_h0, 0, [0])]
noncomputable def q_80 : vm_Q := (82, [.inr (.inr (some 34)), .inr (.inr (some 20))], va_h0, vp_80)
noncomputable def vk_80 : List vm_U := [(q_38, false, []), (q_79, false, [])]
noncomputable def vf_80 : List ((Nat → am_I) → vm_A) := [fun v => (0, [(0, .inr (.inr (some 34))), (1, .inr (.inr (some 20)))], [], (80, [])), fun v => (10, [(0, .inr (.inr (some 34))), (1, .inr (.inr (some 20))), (2, .inl (v 0))], [], (80, []))]
noncomputable def vd_80_0_0 : List (List Nat) := [[65536, 65537, 4295032833, 8590000129, 12884967425, 17179934721, 21474902017, 25769869313], [30064836609, 34359803905, 38654771201, 42949738497, 47244705793, 51539673089, 55834640385, 60129607681], [64424574977, 68719542273, 73014509569, 77309476865, 81604444161, 85899411457, 90194378753, 94489346049], [98784313345, 103079280641, 107374247937, 111669215233, 115964182529, 120259149825, 124554117121, 128849084417], [133144051713, 137439019009, 141733986305, 146028953601, 150323920897, 154618888193, 158913855489, 163208822785], [167503790081, 171798757377, 176093724673, 180388691969, 184683659265, 188978626561, 193273593857, 197568561153], [201863528449, 206158495745, 210453463041, 214748430337, 219043397633, 223338364929, 227633332225, 231928299521], [236223266817, 240518234113, 244813201409, 249108168705, 253403136001, 257698103297, 1023410177]]
noncomputable def vd_80_0 : List (List (List Nat)) := [vd_80_0_0]
noncomputable def vd_80 : List (List (List (List Nat))) := [vd_80_0]
noncomputable def vt_80 : List (List am_I) := []
noncomputable def vc_80 : vm_C := (fun _ => vp_80, fun pc => [], [10], 63, vm_inst 8 62 vt_80 vf_80 vd_80)
theorem vx_80_0 : vm_chk bt_82 [] vk_80 11 vc_80 0 15 = true := by decide +kernel
theorem vx_80_1 : vm_chk bt_82 [] vk_80 11 vc_80 15 15 = true := by decide +kernel
theorem vx_80_2 : vm_chk bt_82 [] vk_80 11 vc_80 30 15 = true := by decide +kernel
theorem vx_80_3 : vm_chk bt_82 [] vk_80 11 vc_80 45 15 = true := by decide +kernel
theorem vx_80_4 : vm_chk bt_82 [] vk_80 11 vc_80 60 3 = true := by decide +kernel
theorem vy_80 : vm_ents 82 11 vc_80 ve_80 = true := by decide +kernel
theorem vw_80 : ∀ q ∈ vk_80, vm_wt 6 q := vm_wts (vm_kc (vm_up v_38 rfl) (vm_kc (vm_up v_79 rfl) vm_kn)) (by decide +kernel)
theorem v_80 : vm_at 7 q_80 := vm_ok (inl := []) (es := ve_80) bq_82 (by decide) vw_80 vy_80 (fun i => vm_hc vx_80_4 rfl (vm_hc vx_80_3 rfl (vm_hc vx_80_2 rfl (vm_hc vx_80_1 rfl (vm_hc vx_80_0 rfl (fun h => absurd h (Nat.not_lt_zero _))))))) _ List.mem_cons_self
noncomputable def vp_81 : List vm_R := [(some (.inl (.negSucc 3, .ofNat 60417)), va_h0)]
noncomputable def ve_81 : List vm_E := [([.inr (.inr (some 34)), .inr (.inr (some 20))], va_h0, 0, [0])]
noncomputable def q_81 : vm_Q := (85, [.inr (.inr (some 34)), .inr (.inr (some 20))], va_h0, vp_81)
noncomputable def vk_81 : List vm_U := [(q_38, false, []), (q_68, false, []), (q_32, true, [])]
noncomputable def vf_81 : List ((Nat → am_I) → vm_A) := [fun v => (0, [(0, .inr (.inr (some 34))), (1, .inr (.inr (some 20)))], [], (80, [])), fun v => (10, [(0, .inr (.inr (some 34))), (1, .inr (.inr (some 20))), (2, .inl (.ofNat 0, .ofNat 0))], [], (80, [])), fun v => (27, [(0, .inr (.inr (some 34))), (1, .inr (.inr (some 20))), (2, .inl (v 0)), (3, .inr (.inl am_topl)), (5, .inl (v 1))], [], (80, [])), fun v => (10, [(0, .inr (.inr (some 34))), (1, .inr (.inr (some 20))), (2, .inl (v 0)), (3, .inr (.inl am_topl)), (5, .inl am_top)], [], (80, []))]
noncomputable def vd_81_0_0 : List (List Nat) := [[65536, 65537, 65538, 4295032835, 4295032834, 1103806660610, 8590000131, 8590000130], [1108101627906, 2207613255682, 12884967427, 12884967426, 1112396595202, 2211908222978, 3311419850754, 17179934723], [17179934722, 1116691562498, 2216203190274, 3315714818050, 4415226445826, 21474902019, 21474902018, 1120986529794], [2220498157570, 3320009785346, 4419521413122, 5519033040898, 25769869315, 25769869314, 1125281497090, 2224793124866], [3324304752642, 4423816380418, 5523328008194, 6622839635970, 30064836611, 30064836610, 1129576464386, 2229088092162], [3328599719938, 4428111347714, 5527622975490, 6627134603266, 7726646231042, 34359803907, 34359803906, 1133871431682], [2233383059458, 3332894687234, 4432406315010, 5531917942786, 6631429570562, 7730941198338, 8830452826114, 38654771203], [38654771202, 1138166398978, 2237678026754, 3337189654530, 4436701282306, 5536212910082, 6635724537858, 7735236165634]]
noncomputable def vd_81_0_1 : List (List Nat) := [[8834747793410, 9934259421186, 42949738499, 42949738498, 1142461366274, 2241972994050, 3341484621826, 4440996249602], [5540507877378, 6640019505154, 7739531132930, 8839042760706, 9938554388482, 11038066016258, 47244705795, 47244705794], [1146756333570, 2246267961346, 3345779589122, 4445291216898, 5544802844674, 6644314472450, 7743826100226, 8843337728002], [9942849355778, 11042360983554, 12141872611330, 51539673091, 51539673090, 1151051300866, 2250562928642, 3350074556418], [4449586184194, 5549097811970, 6648609439746, 7748121067522, 8847632695298, 9947144323074, 11046655950850, 12146167578626], [13245679206402, 55834640387, 55834640386, 1155346268162, 2254857895938, 3354369523714, 4453881151490, 5553392779266], [6652904407042, 7752416034818, 8851927662594, 9951439290370, 11050950918146, 12150462545922, 13249974173698, 14349485801474], [60129607683, 60129607682, 1159641235458, 2259152863234, 3358664491010, 4458176118786, 5557687746562, 6657199374338]]
noncomputable def vd_81_0_2 : List (List Nat) := [[7756711002114, 8856222629890, 9955734257666, 11055245885442, 12154757513218, 13254269140994, 14353780768770, 15453292396546], [64424574979, 64424574978, 1163936202754, 2263447830530, 3362959458306, 4462471086082, 5561982713858, 6661494341634], [7761005969410, 8860517597186, 9960029224962, 11059540852738, 12159052480514, 13258564108290, 14358075736066, 15457587363842], [16557098991618, 68719542275, 68719542274, 1168231170050, 2267742797826, 3367254425602, 4466766053378, 5566277681154], [6665789308930, 7765300936706, 8864812564482, 9964324192258, 11063835820034, 12163347447810, 13262859075586, 14362370703362], [15461882331138, 16561393958914, 17660905586690, 73014509571, 73014509570, 1172526137346, 2272037765122, 3371549392898], [4471061020674, 5570572648450, 6670084276226, 7769595904002, 8869107531778, 9968619159554, 11068130787330, 12167642415106], [13267154042882, 14366665670658, 15466177298434, 16565688926210, 17665200553986, 18764712181762, 77309476867, 77309476866]]
noncomputable def vd_81_0_3 : List (List Nat) := [[1176821104642, 2276332732418, 3375844360194, 4475355987970, 5574867615746, 6674379243522, 7773890871298, 8873402499074], [9972914126850, 11072425754626, 12171937382402, 13271449010178, 14370960637954, 15470472265730, 16569983893506, 17669495521282], [18769007149058, 19868518776834, 81604444163, 81604444162, 1181116071938, 2280627699714, 3380139327490, 4479650955266], [5579162583042, 6678674210818, 7778185838594, 8877697466370, 9977209094146, 11076720721922, 12176232349698, 13275743977474], [14375255605250, 15474767233026, 16574278860802, 17673790488578, 18773302116354, 19872813744130, 20972325371906, 85899411459], [85899411458, 1185411039234, 2284922667010, 3384434294786, 4483945922562, 5583457550338, 6682969178114, 7782480805890], [8881992433666, 9981504061442, 11081015689218, 12180527316994, 13280038944770, 14379550572546, 15479062200322, 16578573828098], [17678085455874, 18777597083650, 19877108711426, 20976620339202, 22076131966978, 90194378755, 90194378754, 1189706006530]]
noncomputable def vd_81_0_4 : List (List Nat) := [[2289217634306, 3388729262082, 4488240889858, 5587752517634, 6687264145410, 7786775773186, 8886287400962, 9985799028738], [11085310656514, 12184822284290, 13284333912066, 14383845539842, 15483357167618, 16582868795394, 17682380423170, 18781892050946], [19881403678722, 20980915306498, 22080426934274, 23179938562050, 94489346051, 94489346050, 1194000973826, 2293512601602], [3393024229378, 4492535857154, 5592047484930, 6691559112706, 7791070740482, 8890582368258, 9990093996034, 11089605623810], [12189117251586, 13288628879362, 14388140507138, 15487652134914, 16587163762690, 17686675390466, 18786187018242, 19885698646018], [20985210273794, 22084721901570, 23184233529346, 24283745157122, 98784313347, 98784313346, 1198295941122, 2297807568898], [3397319196674, 4496830824450, 5596342452226, 6695854080002, 7795365707778, 8894877335554, 9994388963330, 11093900591106], [12193412218882, 13292923846658, 14392435474434, 15491947102210, 16591458729986, 17690970357762, 18790481985538, 19889993613314]]
noncomputable def vd_81_0_5 : List (List Nat) := [[20989505241090, 22089016868866, 23188528496642, 24288040124418, 25387551752194, 103079280643, 103079280642, 1202590908418], [2302102536194, 3401614163970, 4501125791746, 5600637419522, 6700149047298, 7799660675074, 8899172302850, 9998683930626], [11098195558402, 12197707186178, 13297218813954, 14396730441730, 15496242069506, 16595753697282, 17695265325058, 18794776952834], [19894288580610, 20993800208386, 22093311836162, 23192823463938, 24292335091714, 25391846719490, 26491358347266, 107374247939], [107374247938, 1206885875714, 2306397503490, 3405909131266, 4505420759042, 5604932386818, 6704444014594, 7803955642370], [8903467270146, 10002978897922, 11102490525698, 12202002153474, 13301513781250, 14401025409026, 15500537036802, 16600048664578], [17699560292354, 18799071920130, 19898583547906, 20998095175682, 22097606803458, 23197118431234, 24296630059010, 25396141686786], [26495653314562, 27595164942338, 111669215235, 111669215234, 1211180843010, 2310692470786, 3410204098562, 4509715726338]]
noncomputable def vd_81_0_6 : List (List Nat) := [[5609227354114, 6708738981890, 7808250609666, 8907762237442, 10007273865218, 11106785492994, 12206297120770, 13305808748546], [14405320376322, 15504832004098, 16604343631874, 17703855259650, 18803366887426, 19902878515202, 21002390142978, 22101901770754], [23201413398530, 24300925026306, 25400436654082, 26499948281858, 27599459909634, 28698971537410, 115964182531, 115964182530], [1215475810306, 2314987438082, 3414499065858, 4514010693634, 5613522321410, 6713033949186, 7812545576962, 8912057204738], [10011568832514, 11111080460290, 12210592088066, 13310103715842, 14409615343618, 15509126971394, 16608638599170, 17708150226946], [18807661854722, 19907173482498, 21006685110274, 22106196738050, 23205708365826, 24305219993602, 25404731621378, 26504243249154], [27603754876930, 28703266504706, 29802778132482, 120259149827, 120259149826, 1219770777602, 2319282405378, 3418794033154], [4518305660930, 5617817288706, 6717328916482, 7816840544258, 8916352172034, 10015863799810, 11115375427586, 12214887055362]]
noncomputable def vd_81_0_7 : List (List Nat) := [[13314398683138, 14413910310914, 15513421938690, 16612933566466, 17712445194242, 18811956822018, 19911468449794, 21010980077570], [22110491705346, 23210003333122, 24309514960898, 25409026588674, 26508538216450, 27608049844226, 28707561472002, 29807073099778], [30906584727554, 124554117123, 124554117122, 1224065744898, 2323577372674, 3423089000450, 4522600628226, 5622112256002], [6721623883778, 7821135511554, 8920647139330, 10020158767106, 11119670394882, 12219182022658, 13318693650434, 14418205278210], [15517716905986, 16617228533762, 17716740161538, 18816251789314, 19915763417090, 21015275044866, 22114786672642, 23214298300418], [24313809928194, 25413321555970, 26512833183746, 27612344811522, 28711856439298, 29811368067074, 30910879694850, 32010391322626], [128849084419, 128849084418, 1228360712194, 2327872339970, 3427383967746, 4526895595522, 5626407223298, 6725918851074], [7825430478850, 8924942106626, 10024453734402, 11123965362178, 12223476989954, 13322988617730, 14422500245506, 15522011873282]]
noncomputable def vd_81_0 : List (List (List Nat)) := [vd_81_0_0, vd_81_0_1, vd_81_0_2, vd_81_0_3, vd_81_0_4, vd_81_0_5, vd_81_0_6, vd_81_0_7]
noncomputable def vd_81_1_0 : List (List Nat) := [[16621523501058, 17721035128834, 18820546756610, 19920058384386, 21019570012162, 22119081639938, 23218593267714, 24318104895490], [25417616523266, 26517128151042, 27616639778818, 28716151406594, 29815663034370, 30915174662146, 32014686289922, 33114197917698], [133144051715, 133144051714, 1232655679490, 2332167307266, 3431678935042, 4531190562818, 5630702190594, 6730213818370], [7829725446146, 8929237073922, 10028748701698, 11128260329474, 12227771957250, 13327283585026, 14426795212802, 15526306840578], [16625818468354, 17725330096130, 18824841723906, 19924353351682, 21023864979458, 22123376607234, 23222888235010, 24322399862786], [25421911490562, 26521423118338, 27620934746114, 28720446373890, 29819958001666, 30919469629442, 32018981257218, 33118492884994], [34218004512770, 137439019011, 137439019010, 1236950646786, 2336462274562, 3435973902338, 4535485530114, 5634997157890], [6734508785666, 7834020413442, 8933532041218, 10033043668994, 11132555296770, 12232066924546, 13331578552322, 14431090180098]]
noncomputable def vd_81_1_1 : List (List Nat) := [[15530601807874, 16630113435650, 17729625063426, 18829136691202, 19928648318978, 21028159946754, 22127671574530, 23227183202306], [24326694830082, 25426206457858, 26525718085634, 27625229713410, 28724741341186, 29824252968962, 30923764596738, 32023276224514], [33122787852290, 34222299480066, 35321811107842, 141733986307, 141733986306, 1241245614082, 2340757241858, 3440268869634], [4539780497410, 5639292125186, 6738803752962, 7838315380738, 8937827008514, 10037338636290, 11136850264066, 12236361891842], [13335873519618, 14435385147394, 15534896775170, 16634408402946, 17733920030722, 18833431658498, 19932943286274, 21032454914050], [22131966541826, 23231478169602, 24330989797378, 25430501425154, 26530013052930, 27629524680706, 28729036308482, 29828547936258], [30928059564034, 32027571191810, 33127082819586, 34226594447362, 35326106075138, 36425617702914, 146028953603, 146028953602], [1245540581378, 2345052209154, 3444563836930, 4544075464706, 5643587092482, 6743098720258, 7842610348034, 8942121975810]]
noncomputable def vd_81_1_2 : List (List Nat) := [[10041633603586, 11141145231362, 12240656859138, 13340168486914, 14439680114690, 15539191742466, 16638703370242, 17738214998018], [18837726625794, 19937238253570, 21036749881346, 22136261509122, 23235773136898, 24335284764674, 25434796392450, 26534308020226], [27633819648002, 28733331275778, 29832842903554, 30932354531330, 32031866159106, 33131377786882, 34230889414658, 35330401042434], [36429912670210, 37529424297986, 150323920899, 150323920898, 1249835548674, 2349347176450, 3448858804226, 4548370432002], [5647882059778, 6747393687554, 7846905315330, 8946416943106, 10045928570882, 11145440198658, 12244951826434, 13344463454210], [14443975081986, 15543486709762, 16642998337538, 17742509965314, 18842021593090, 19941533220866, 21041044848642, 22140556476418], [23240068104194, 24339579731970, 25439091359746, 26538602987522, 27638114615298, 28737626243074, 29837137870850, 30936649498626], [32036161126402, 33135672754178, 34235184381954, 35334696009730, 36434207637506, 37533719265282, 38633230893058, 154618888195]]
noncomputable def vd_81_1_3 : List (List Nat) := [[154618888194, 1254130515970, 2353642143746, 3453153771522, 4552665399298, 5652177027074, 6751688654850, 7851200282626], [8950711910402, 10050223538178, 11149735165954, 12249246793730, 13348758421506, 14448270049282, 15547781677058, 16647293304834], [17746804932610, 18846316560386, 19945828188162, 21045339815938, 22144851443714, 23244363071490, 24343874699266, 25443386327042], [26542897954818, 27642409582594, 28741921210370, 29841432838146, 30940944465922, 32040456093698, 33139967721474, 34239479349250], [35338990977026, 36438502604802, 37538014232578, 38637525860354, 39737037488130, 158913855491, 158913855490, 1258425483266], [2357937111042, 3457448738818, 4556960366594, 5656471994370, 6755983622146, 7855495249922, 8955006877698, 10054518505474], [11154030133250, 12253541761026, 13353053388802, 14452565016578, 15552076644354, 16651588272130, 17751099899906, 18850611527682], [19950123155458, 21049634783234, 22149146411010, 23248658038786, 24348169666562, 25447681294338, 26547192922114, 27646704549890]]
noncomputable def vd_81_1_4 : List (List Nat) := [[28746216177666, 29845727805442, 30945239433218, 32044751060994, 33144262688770, 34243774316546, 35343285944322, 36442797572098], [37542309199874, 38641820827650, 39741332455426, 40840844083202, 163208822787, 163208822786, 1262720450562, 2362232078338], [3461743706114, 4561255333890, 5660766961666, 6760278589442, 7859790217218, 8959301844994, 10058813472770, 11158325100546], [12257836728322, 13357348356098, 14456859983874, 15556371611650, 16655883239426, 17755394867202, 18854906494978, 19954418122754], [21053929750530, 22153441378306, 23252953006082, 24352464633858, 25451976261634, 26551487889410, 27650999517186, 28750511144962], [29850022772738, 30949534400514, 32049046028290, 33148557656066, 34248069283842, 35347580911618, 36447092539394, 37546604167170], [38646115794946, 39745627422722, 40845139050498, 41944650678274, 167503790083, 167503790082, 1267015417858, 2366527045634], [3466038673410, 4565550301186, 5665061928962, 6764573556738, 7864085184514, 8963596812290, 10063108440066, 11162620067842]]
noncomputable def vd_81_1_5 : List (List Nat) := [[12262131695618, 13361643323394, 14461154951170, 15560666578946, 16660178206722, 17759689834498, 18859201462274, 19958713090050], [21058224717826, 22157736345602, 23257247973378, 24356759601154, 25456271228930, 26555782856706, 27655294484482, 28754806112258], [29854317740034, 30953829367810, 32053340995586, 33152852623362, 34252364251138, 35351875878914, 36451387506690, 37550899134466], [38650410762242, 39749922390018, 40849434017794, 41948945645570, 43048457273346, 171798757379, 171798757378, 1271310385154], [2370822012930, 3470333640706, 4569845268482, 5669356896258, 6768868524034, 7868380151810, 8967891779586, 10067403407362], [11166915035138, 12266426662914, 13365938290690, 14465449918466, 15564961546242, 16664473174018, 17763984801794, 18863496429570], [19963008057346, 21062519685122, 22162031312898, 23261542940674, 24361054568450, 25460566196226, 26560077824002, 27659589451778], [28759101079554, 29858612707330, 30958124335106, 32057635962882, 33157147590658, 34256659218434, 35356170846210, 36455682473986]]
noncomputable def vd_81_1_6 : List (List Nat) := [[37555194101762, 38654705729538, 39754217357314, 40853728985090, 41953240612866, 43052752240642, 44152263868418, 176093724675], [176093724674, 1275605352450, 2375116980226, 3474628608002, 4574140235778, 5673651863554, 6773163491330, 7872675119106], [8972186746882, 10071698374658, 11171210002434, 12270721630210, 13370233257986, 14469744885762, 15569256513538, 16668768141314], [17768279769090, 18867791396866, 19967303024642, 21066814652418, 22166326280194, 23265837907970, 24365349535746, 25464861163522], [26564372791298, 27663884419074, 28763396046850, 29862907674626, 30962419302402, 32061930930178, 33161442557954, 34260954185730], [35360465813506, 36459977441282, 37559489069058, 38659000696834, 39758512324610, 40858023952386, 41957535580162, 43057047207938], [44156558835714, 45256070463490, 180388691971, 180388691970, 1279900319746, 2379411947522, 3478923575298, 4578435203074], [5677946830850, 6777458458626, 7876970086402, 8976481714178, 10075993341954, 11175504969730, 12275016597506, 13374528225282]]
noncomputable def vd_81_1_7 : List (List Nat) := [[14474039853058, 15573551480834, 16673063108610, 17772574736386, 18872086364162, 19971597991938, 21071109619714, 22170621247490], [23270132875266, 24369644503042, 25469156130818, 26568667758594, 27668179386370, 28767691014146, 29867202641922, 30966714269698], [32066225897474, 33165737525250, 34265249153026, 35364760780802, 36464272408578, 37563784036354, 38663295664130, 39762807291906], [40862318919682, 41961830547458, 43061342175234, 44160853803010, 45260365430786, 46359877058562, 184683659267, 184683659266], [1284195287042, 2383706914818, 3483218542594, 4582730170370, 5682241798146, 6781753425922, 7881265053698, 8980776681474], [10080288309250, 11179799937026, 12279311564802, 13378823192578, 14478334820354, 15577846448130, 16677358075906, 17776869703682], [18876381331458, 19975892959234, 21075404587010, 22174916214786, 23274427842562, 24373939470338, 25473451098114, 26572962725890], [27672474353666, 28771985981442, 29871497609218, 30971009236994, 32070520864770, 33170032492546, 34269544120322, 35369055748098]]
noncomputable def vd_81_1 : List (List (List Nat)) := [vd_81_1_0, vd_81_1_1, vd_81_1_2, vd_81_1_3, vd_81_1_4, vd_81_1_5, vd_81_1_6, vd_81_1_7]
noncomputable def vd_81_2_0 : List (List Nat) := [[36468567375874, 37568079003650, 38667590631426, 39767102259202, 40866613886978, 41966125514754, 43065637142530, 44165148770306], [45264660398082, 46364172025858, 47463683653634, 188978626563, 188978626562, 1288490254338, 2388001882114, 3487513509890], [4587025137666, 5686536765442, 6786048393218, 7885560020994, 8985071648770, 10084583276546, 11184094904322, 12283606532098], [13383118159874, 14482629787650, 15582141415426, 16681653043202, 17781164670978, 18880676298754, 19980187926530, 21079699554306], [22179211182082, 23278722809858, 24378234437634, 25477746065410, 26577257693186, 27676769320962, 28776280948738, 29875792576514], [30975304204290, 32074815832066, 33174327459842, 34273839087618, 35373350715394, 36472862343170, 37572373970946, 38671885598722], [39771397226498, 40870908854274, 41970420482050, 43069932109826, 44169443737602, 45268955365378, 46368466993154, 47467978620930], [48567490248706, 193273593859, 193273593858, 1292785221634, 2392296849410, 3491808477186, 4591320104962, 5690831732738]]
noncomputable def vd_81_2_1 : List (List Nat) := [[6790343360514, 7889854988290, 8989366616066, 10088878243842, 11188389871618, 12287901499394, 13387413127170, 14486924754946], [15586436382722, 16685948010498, 17785459638274, 18884971266050, 19984482893826, 21083994521602, 22183506149378, 23283017777154], [24382529404930, 25482041032706, 26581552660482, 27681064288258, 28780575916034, 29880087543810, 30979599171586, 32079110799362], [33178622427138, 34278134054914, 35377645682690, 36477157310466, 37576668938242, 38676180566018, 39775692193794, 40875203821570], [41974715449346, 43074227077122, 44173738704898, 45273250332674, 46372761960450, 47472273588226, 48571785216002, 49671296843778], [197568561155, 197568561154, 1297080188930, 2396591816706, 3496103444482, 4595615072258, 5695126700034, 6794638327810], [7894149955586, 8993661583362, 10093173211138, 11192684838914, 12292196466690, 13391708094466, 14491219722242, 15590731350018], [16690242977794, 17789754605570, 18889266233346, 19988777861122, 21088289488898, 22187801116674, 23287312744450, 24386824372226]]
noncomputable def vd_81_2_2 : List (List Nat) := [[25486336000002, 26585847627778, 27685359255554, 28784870883330, 29884382511106, 30983894138882, 32083405766658, 33182917394434], [34282429022210, 35381940649986, 36481452277762, 37580963905538, 38680475533314, 39779987161090, 40879498788866, 41979010416642], [43078522044418, 44178033672194, 45277545299970, 46377056927746, 47476568555522, 48576080183298, 49675591811074, 50775103438850], [201863528451, 201863528450, 1301375156226, 2400886784002, 3500398411778, 4599910039554, 5699421667330, 6798933295106], [7898444922882, 8997956550658, 10097468178434, 11196979806210, 12296491433986, 13396003061762, 14495514689538, 15595026317314], [16694537945090, 17794049572866, 18893561200642, 19993072828418, 21092584456194, 22192096083970, 23291607711746, 24391119339522], [25490630967298, 26590142595074, 27689654222850, 28789165850626, 29888677478402, 30988189106178, 32087700733954, 33187212361730], [34286723989506, 35386235617282, 36485747245058, 37585258872834, 38684770500610, 39784282128386, 40883793756162, 41983305383938]]
noncomputable def vd_81_2_3 : List (List Nat) := [[43082817011714, 44182328639490, 45281840267266, 46381351895042, 47480863522818, 48580375150594, 49679886778370, 50779398406146], [51878910033922, 206158495747, 206158495746, 1305670123522, 2405181751298, 3504693379074, 4604205006850, 5703716634626], [6803228262402, 7902739890178, 9002251517954, 10101763145730, 11201274773506, 12300786401282, 13400298029058, 14499809656834], [15599321284610, 16698832912386, 17798344540162, 18897856167938, 19997367795714, 21096879423490, 22196391051266, 23295902679042], [24395414306818, 25494925934594, 26594437562370, 27693949190146, 28793460817922, 29892972445698, 30992484073474, 32091995701250], [33191507329026, 34291018956802, 35390530584578, 36490042212354, 37589553840130, 38689065467906, 39788577095682, 40888088723458], [41987600351234, 43087111979010, 44186623606786, 45286135234562, 46385646862338, 47485158490114, 48584670117890, 49684181745666], [50783693373442, 51883205001218, 52982716628994, 210453463043, 210453463042, 1309965090818, 2409476718594, 3508988346370]]
noncomputable def vd_81_2_4 : List (List Nat) := [[4608499974146, 5708011601922, 6807523229698, 7907034857474, 9006546485250, 10106058113026, 11205569740802, 12305081368578], [13404592996354, 14504104624130, 15603616251906, 16703127879682, 17802639507458, 18902151135234, 20001662763010, 21101174390786], [22200686018562, 23300197646338, 24399709274114, 25499220901890, 26598732529666, 27698244157442, 28797755785218, 29897267412994], [30996779040770, 32096290668546, 33195802296322, 34295313924098, 35394825551874, 36494337179650, 37593848807426, 38693360435202], [39792872062978, 40892383690754, 41991895318530, 43091406946306, 44190918574082, 45290430201858, 46389941829634, 47489453457410], [48588965085186, 49688476712962, 50787988340738, 51887499968514, 52987011596290, 54086523224066, 214748430339, 214748430338], [1314260058114, 2413771685890, 3513283313666, 4612794941442, 5712306569218, 6811818196994, 7911329824770, 9010841452546], [10110353080322, 11209864708098, 12309376335874, 13408887963650, 14508399591426, 15607911219202, 16707422846978, 17806934474754]]
noncomputable def vd_81_2_5 : List (List Nat) := [[18906446102530, 20005957730306, 21105469358082, 22204980985858, 23304492613634, 24404004241410, 25503515869186, 26603027496962], [27702539124738, 28802050752514, 29901562380290, 31001074008066, 32100585635842, 33200097263618, 34299608891394, 35399120519170], [36498632146946, 37598143774722, 38697655402498, 39797167030274, 40896678658050, 41996190285826, 43095701913602, 44195213541378], [45294725169154, 46394236796930, 47493748424706, 48593260052482, 49692771680258, 50792283308034, 51891794935810, 52991306563586], [54090818191362, 55190329819138, 219043397635, 219043397634, 1318555025410, 2418066653186, 3517578280962, 4617089908738], [5716601536514, 6816113164290, 7915624792066, 9015136419842, 10114648047618, 11214159675394, 12313671303170, 13413182930946], [14512694558722, 15612206186498, 16711717814274, 17811229442050, 18910741069826, 20010252697602, 21109764325378, 22209275953154], [23308787580930, 24408299208706, 25507810836482, 26607322464258, 27706834092034, 28806345719810, 29905857347586, 31005368975362]]
noncomputable def vd_81_2_6 : List (List Nat) := [[32104880603138, 33204392230914, 34303903858690, 35403415486466, 36502927114242, 37602438742018, 38701950369794, 39801461997570], [40900973625346, 42000485253122, 43099996880898, 44199508508674, 45299020136450, 46398531764226, 47498043392002, 48597555019778], [49697066647554, 50796578275330, 51896089903106, 52995601530882, 54095113158658, 55194624786434, 56294136414210, 223338364931], [223338364930, 1322849992706, 2422361620482, 3521873248258, 4621384876034, 5720896503810, 6820408131586, 7919919759362], [9019431387138, 10118943014914, 11218454642690, 12317966270466, 13417477898242, 14516989526018, 15616501153794, 16716012781570], [17815524409346, 18915036037122, 20014547664898, 21114059292674, 22213570920450, 23313082548226, 24412594176002, 25512105803778], [26611617431554, 27711129059330, 28810640687106, 29910152314882, 31009663942658, 32109175570434, 33208687198210, 34308198825986], [35407710453762, 36507222081538, 37606733709314, 38706245337090, 39805756964866, 40905268592642, 42004780220418, 43104291848194]]
noncomputable def vd_81_2_7 : List (List Nat) := [[44203803475970, 45303315103746, 46402826731522, 47502338359298, 48601849987074, 49701361614850, 50800873242626, 51900384870402], [52999896498178, 54099408125954, 55198919753730, 56298431381506, 57397943009282, 227633332227, 227633332226, 1327144960002], [2426656587778, 3526168215554, 4625679843330, 5725191471106, 6824703098882, 7924214726658, 9023726354434, 10123237982210], [11222749609986, 12322261237762, 13421772865538, 14521284493314, 15620796121090, 16720307748866, 17819819376642, 18919331004418], [20018842632194, 21118354259970, 22217865887746, 23317377515522, 24416889143298, 25516400771074, 26615912398850, 27715424026626], [28814935654402, 29914447282178, 31013958909954, 32113470537730, 33212982165506, 34312493793282, 35412005421058, 36511517048834], [37611028676610, 38710540304386, 39810051932162, 40909563559938, 42009075187714, 43108586815490, 44208098443266, 45307610071042], [46407121698818, 47506633326594, 48606144954370, 49705656582146, 50805168209922, 51904679837698, 53004191465474, 54103703093250]]
noncomputable def vd_81_2 : List (List (List Nat)) := [vd_81_2_0, vd_81_2_1, vd_81_2_2, vd_81_2_3, vd_81_2_4, vd_81_2_5, vd_81_2_6, vd_81_2_7]
noncomputable def vd_81_3_0 : List (List Nat) := [[55203214721026, 56302726348802, 57402237976578, 58501749604354, 231928299523, 231928299522, 1331439927298, 2430951555074], [3530463182850, 4629974810626, 5729486438402, 6828998066178, 7928509693954, 9028021321730, 10127532949506, 11227044577282], [12326556205058, 13426067832834, 14525579460610, 15625091088386, 16724602716162, 17824114343938, 18923625971714, 20023137599490], [21122649227266, 22222160855042, 23321672482818, 24421184110594, 25520695738370, 26620207366146, 27719718993922, 28819230621698], [29918742249474, 31018253877250, 32117765505026, 33217277132802, 34316788760578, 35416300388354, 36515812016130, 37615323643906], [38714835271682, 39814346899458, 40913858527234, 42013370155010, 43112881782786, 44212393410562, 45311905038338, 46411416666114], [47510928293890, 48610439921666, 49709951549442, 50809463177218, 51908974804994, 53008486432770, 54107998060546, 55207509688322], [56307021316098, 57406532943874, 58506044571650, 59605556199426, 236223266819, 236223266818, 1335734894594, 2435246522370]]
noncomputable def vd_81_3_1 : List (List Nat) := [[3534758150146, 4634269777922, 5733781405698, 6833293033474, 7932804661250, 9032316289026, 10131827916802, 11231339544578], [12330851172354, 13430362800130, 14529874427906, 15629386055682, 16728897683458, 17828409311234, 18927920939010, 20027432566786], [21126944194562, 22226455822338, 23325967450114, 24425479077890, 25524990705666, 26624502333442, 27724013961218, 28823525588994], [29923037216770, 31022548844546, 32122060472322, 33221572100098, 34321083727874, 35420595355650, 36520106983426, 37619618611202], [38719130238978, 39818641866754, 40918153494530, 42017665122306, 43117176750082, 44216688377858, 45316200005634, 46415711633410], [47515223261186, 48614734888962, 49714246516738, 50813758144514, 51913269772290, 53012781400066, 54112293027842, 55211804655618], [56311316283394, 57410827911170, 58510339538946, 59609851166722, 60709362794498, 240518234115, 240518234114, 1340029861890], [2439541489666, 3539053117442, 4638564745218, 5738076372994, 6837588000770, 7937099628546, 9036611256322, 10136122884098]]
noncomputable def vd_81_3_2 : List (List Nat) := [[11235634511874, 12335146139650, 13434657767426, 14534169395202, 15633681022978, 16733192650754, 17832704278530, 18932215906306], [20031727534082, 21131239161858, 22230750789634, 23330262417410, 24429774045186, 25529285672962, 26628797300738, 27728308928514], [28827820556290, 29927332184066, 31026843811842, 32126355439618, 33225867067394, 34325378695170, 35424890322946, 36524401950722], [37623913578498, 38723425206274, 39822936834050, 40922448461826, 42021960089602, 43121471717378, 44220983345154, 45320494972930], [46420006600706, 47519518228482, 48619029856258, 49718541484034, 50818053111810, 51917564739586, 53017076367362, 54116587995138], [55216099622914, 56315611250690, 57415122878466, 58514634506242, 59614146134018, 60713657761794, 61813169389570, 244813201411], [244813201410, 1344324829186, 2443836456962, 3543348084738, 4642859712514, 5742371340290, 6841882968066, 7941394595842], [9040906223618, 10140417851394, 11239929479170, 12339441106946, 13438952734722, 14538464362498, 15637975990274, 16737487618050]]
noncomputable def vd_81_3_3 : List (List Nat) := [[17836999245826, 18936510873602, 20036022501378, 21135534129154, 22235045756930, 23334557384706, 24434069012482, 25533580640258], [26633092268034, 27732603895810, 28832115523586, 29931627151362, 31031138779138, 32130650406914, 33230162034690, 34329673662466], [35429185290242, 36528696918018, 37628208545794, 38727720173570, 39827231801346, 40926743429122, 42026255056898, 43125766684674], [44225278312450, 45324789940226, 46424301568002, 47523813195778, 48623324823554, 49722836451330, 50822348079106, 51921859706882], [53021371334658, 54120882962434, 55220394590210, 56319906217986, 57419417845762, 58518929473538, 59618441101314, 60717952729090], [61817464356866, 62916975984642, 249108168707, 249108168706, 1348619796482, 2448131424258, 3547643052034, 4647154679810], [5746666307586, 6846177935362, 7945689563138, 9045201190914, 10144712818690, 11244224446466, 12343736074242, 13443247702018], [14542759329794, 15642270957570, 16741782585346, 17841294213122, 18940805840898, 20040317468674, 21139829096450, 22239340724226]]
noncomputable def vd_81_3_4 : List (List Nat) := [[23338852352002, 24438363979778, 25537875607554, 26637387235330, 27736898863106, 28836410490882, 29935922118658, 31035433746434], [32134945374210, 33234457001986, 34333968629762, 35433480257538, 36532991885314, 37632503513090, 38732015140866, 39831526768642], [40931038396418, 42030550024194, 43130061651970, 44229573279746, 45329084907522, 46428596535298, 47528108163074, 48627619790850], [49727131418626, 50826643046402, 51926154674178, 53025666301954, 54125177929730, 55224689557506, 56324201185282, 57423712813058], [58523224440834, 59622736068610, 60722247696386, 61821759324162, 62921270951938, 64020782579714, 253403136003, 253403136002], [1352914763778, 2452426391554, 3551938019330, 4651449647106, 5750961274882, 6850472902658, 7949984530434, 9049496158210], [10149007785986, 11248519413762, 12348031041538, 13447542669314, 14547054297090, 15646565924866, 16746077552642, 17845589180418], [18945100808194, 20044612435970, 21144124063746, 22243635691522, 23343147319298, 24442658947074, 25542170574850, 26641682202626]]
noncomputable def vd_81_3_5 : List (List Nat) := [[27741193830402, 28840705458178, 29940217085954, 31039728713730, 32139240341506, 33238751969282, 34338263597058, 35437775224834], [36537286852610, 37636798480386, 38736310108162, 39835821735938, 40935333363714, 42034844991490, 43134356619266, 44233868247042], [45333379874818, 46432891502594, 47532403130370, 48631914758146, 49731426385922, 50830938013698, 51930449641474, 53029961269250], [54129472897026, 55228984524802, 56328496152578, 57428007780354, 58527519408130, 59627031035906, 60726542663682, 61826054291458], [62925565919234, 64025077547010, 65124589174786, 257698103299, 257698103298, 1357209731074, 2456721358850, 3556232986626], [4655744614402, 5755256242178, 6854767869954, 7954279497730, 9053791125506, 10153302753282, 11252814381058, 12352326008834], [13451837636610, 14551349264386, 15650860892162, 16750372519938, 17849884147714, 18949395775490, 20048907403266, 21148419031042], [22247930658818, 23347442286594, 24446953914370, 25546465542146, 26645977169922, 27745488797698, 28845000425474, 29944512053250]]
noncomputable def vd_81_3_6 : List (List Nat) := [[31044023681026, 32143535308802, 33243046936578, 34342558564354, 35442070192130, 36541581819906, 37641093447682, 38740605075458], [39840116703234, 40939628331010, 42039139958786, 43138651586562, 44238163214338, 45337674842114, 46437186469890, 47536698097666], [48636209725442, 49735721353218, 50835232980994, 51934744608770, 53034256236546, 54133767864322, 55233279492098, 56332791119874], [57432302747650, 58531814375426, 59631326003202, 60730837630978, 61830349258754, 62929860886530, 64029372514306, 65128884142082], [66228395769858, 1023410179]]
noncomputable def vd_81_3 : List (List (List Nat)) := [vd_81_3_0, vd_81_3_1, vd_81_3_2, vd_81_3_3, vd_81_3_4, vd_81_3_5, vd_81_3_6]
noncomputable def vd_81 : List (List (List (List Nat))) := [vd_81_0, vd_81_1, vd_81_2, vd_81_3]
noncomputable def vt_81 : List (List am_I) := []
noncomputable def vc_81 : vm_C := (fun _ => vp_81, fun pc => [], [10, 27], 1954, vm_inst 8 62 vt_81 vf_81 vd_81)
theorem vx_81_0 : vm_chk bt_85 [] vk_81 20 vc_81 0 12 = true := by decide +kernel
theorem vx_81_1 : vm_chk bt_85 [] vk_81 20 vc_81 12 11 = true := by decide +kernel
theorem vx_81_2 : vm_chk bt_85 [] vk_81 20 vc_81 23 10 = true := by decide +kernel
theorem vx_81_3 : vm_chk bt_85 [] vk_81 20 vc_81 33 10 = true := by decide +kernel
theorem vx_81_4 : vm_chk bt_85 [] vk_81 20 vc_81 43 10 = true := by decide +kernel
theorem vx_81_5 : vm_chk bt_85 [] vk_81 20 vc_81 53 10 = true := by decide +kernel
theorem vx_81_6 : vm_chk bt_85 [] vk_81 20 vc_81 63 10 = true := by decide +kernel
theorem vx_81_7 : vm_chk bt_85 [] vk_81 20 vc_81 73 10 = true := by decide +kernel
theorem vx_81_8 : vm_chk bt_85 [] vk_81 20 vc_81 83 10 = true := by decide +kernel
theorem vx_81_9 : vm_chk bt_85 [] vk_81 20 vc_81 93 10 = true := by decide +kernel
theorem vx_81_10 : vm_chk bt_85 [] vk_81 20 vc_81 103 10 = true := by decide +kernel
theorem vx_81_11 : vm_chk bt_85 [] vk_81 20 vc_81 113 10 = true := by decide +kernel
theorem vx_81_12 : vm_chk bt_85 [] vk_81 20 vc_81 123 10 = true := by decide +kernel
theorem vx_81_13 : vm_chk bt_85 [] vk_81 20 vc_81 133 10 = true := by decide +kernel
theorem vx_81_14 : vm_chk bt_85 [] vk_81 20 vc_81 143 10 = true := by decide +kernel
theorem vx_81_15 : vm_chk bt_85 [] vk_81 20 vc_81 153 10 = true := by decide +kernel
theorem vx_81_16 : vm_chk bt_85 [] vk_81 20 vc_81 163 10 = true := by decide +kernel
theorem vx_81_17 : vm_chk bt_85 [] vk_81 20 vc_81 173 10 = true := by decide +kernel
theorem vx_81_18 : vm_chk bt_85 [] vk_81 20 vc_81 183 10 = true := by decide +kernel
theorem vx_81_19 : vm_chk bt_85 [] vk_81 20 vc_81 193 10 = true := by decide +kernel
theorem vx_81_20 : vm_chk bt_85 [] vk_81 20 vc_81 203 10 = true := by decide +kernel
theorem vx_81_21 : vm_chk bt_85 [] vk_81 20 vc_81 213 10 = true := by decide +kernel
theorem vx_81_22 : vm_chk bt_85 [] vk_81 20 vc_81 223 10 = true := by decide +kernel
theorem vx_81_23 : vm_chk bt_85 [] vk_81 20 vc_81 233 10 = true := by decide +kernel
theorem vx_81_24 : vm_chk bt_85 [] vk_81 20 vc_81 243 10 = true := by decide +kernel
theorem vx_81_25 : vm_chk bt_85 [] vk_81 20 vc_81 253 10 = true := by decide +kernel
theorem vx_81_26 : vm_chk bt_85 [] vk_81 20 vc_81 263 10 = true := by decide +kernel
theorem vx_81_27 : vm_chk bt_85 [] vk_81 20 vc_81 273 10 = true := by decide +kernel
theorem vx_81_28 : vm_chk bt_85 [] vk_81 20 vc_81 283 10 = true := by decide +kernel
theorem vx_81_29 : vm_chk bt_85 [] vk_81 20 vc_81 293 10 = true := by decide +kernel
theorem vx_81_30 : vm_chk bt_85 [] vk_81 20 vc_81 303 10 = true := by decide +kernel
theorem vx_81_31 : vm_chk bt_85 [] vk_81 20 vc_81 313 10 = true := by decide +kernel
theorem vx_81_32 : vm_chk bt_85 [] vk_81 20 vc_81 323 10 = true := by decide +kernel
theorem vx_81_33 : vm_chk bt_85 [] vk_81 20 vc_81 333 10 = true := by decide +kernel
theorem vx_81_34 : vm_chk bt_85 [] vk_81 20 vc_81 343 10 = true := by decide +kernel
theorem vx_81_35 : vm_chk bt_85 [] vk_81 20 vc_81 353 10 = true := by decide +kernel
theorem vx_81_36 : vm_chk bt_85 [] vk_81 20 vc_81 363 10 = true := by decide +kernel
theorem vx_81_37 : vm_chk bt_85 [] vk_81 20 vc_81 373 10 = true := by decide +kernel
theorem vx_81_38 : vm_chk bt_85 [] vk_81 20 vc_81 383 10 = true := by decide +kernel
theorem vx_81_39 : vm_chk bt_85 [] vk_81 20 vc_81 393 10 = true := by decide +kernel
theorem vx_81_40 : vm_chk bt_85 [] vk_81 20 vc_81 403 10 = true := by decide +kernel
theorem vx_81_41 : vm_chk bt_85 [] vk_81 20 vc_81 413 10 = true := by decide +kernel
theorem vx_81_42 : vm_chk bt_85 [] vk_81 20 vc_81 423 10 = true := by decide +kernel
theorem vx_81_43 : vm_chk bt_85 [] vk_81 20 vc_81 433 10 = true := by decide +kernel
theorem vx_81_44 : vm_chk bt_85 [] vk_81 20 vc_81 443 10 = true := by decide +kernel
theorem vx_81_45 : vm_chk bt_85 [] vk_81 20 vc_81 453 10 = true := by decide +kernel
theorem vx_81_46 : vm_chk bt_85 [] vk_81 20 vc_81 463 10 = true := by decide +kernel
theorem vx_81_47 : vm_chk bt_85 [] vk_81 20 vc_81 473 10 = true := by decide +kernel
theorem vx_81_48 : vm_chk bt_85 [] vk_81 20 vc_81 483 10 = true := by decide +kernel
theorem vx_81_49 : vm_chk bt_85 [] vk_81 20 vc_81 493 10 = true := by decide +kernel
theorem vx_81_50 : vm_chk bt_85 [] vk_81 20 vc_81 503 10 = true := by decide +kernel
theorem vx_81_51 : vm_chk bt_85 [] vk_81 20 vc_81 513 10 = true := by decide +kernel
theorem vx_81_52 : vm_chk bt_85 [] vk_81 20 vc_81 523 10 = true := by decide +kernel
theorem vx_81_53 : vm_chk bt_85 [] vk_81 20 vc_81 533 10 = true := by decide +kernel
theorem vx_81_54 : vm_chk bt_85 [] vk_81 20 vc_81 543 10 = true := by decide +kernel
theorem vx_81_55 : vm_chk bt_85 [] vk_81 20 vc_81 553 10 = true := by decide +kernel
theorem vx_81_56 : vm_chk bt_85 [] vk_81 20 vc_81 563 10 = true := by decide +kernel
theorem vx_81_57 : vm_chk bt_85 [] vk_81 20 vc_81 573 10 = true := by decide +kernel
theorem vx_81_58 : vm_chk bt_85 [] vk_81 20 vc_81 583 10 = true := by decide +kernel
theorem vx_81_59 : vm_chk bt_85 [] vk_81 20 vc_81 593 10 = true := by decide +kernel
theorem vx_81_60 : vm_chk bt_85 [] vk_81 20 vc_81 603 10 = true := by decide +kernel
theorem vx_81_61 : vm_chk bt_85 [] vk_81 20 vc_81 613 10 = true := by decide +kernel
theorem vx_81_62 : vm_chk bt_85 [] vk_81 20 vc_81 623 10 = true := by decide +kernel
theorem vx_81_63 : vm_chk bt_85 [] vk_81 20 vc_81 633 10 = true := by decide +kernel
theorem vx_81_64 : vm_chk bt_85 [] vk_81 20 vc_81 643 10 = true := by decide +kernel
theorem vx_81_65 : vm_chk bt_85 [] vk_81 20 vc_81 653 10 = true := by decide +kernel
theorem vx_81_66 : vm_chk bt_85 [] vk_81 20 vc_81 663 10 = true := by decide +kernel
theorem vx_81_67 : vm_chk bt_85 [] vk_81 20 vc_81 673 10 = true := by decide +kernel
theorem vx_81_68 : vm_chk bt_85 [] vk_81 20 vc_81 683 10 = true := by decide +kernel
theorem vx_81_69 : vm_chk bt_85 [] vk_81 20 vc_81 693 10 = true := by decide +kernel
theorem vx_81_70 : vm_chk bt_85 [] vk_81 20 vc_81 703 10 = true := by decide +kernel
theorem vx_81_71 : vm_chk bt_85 [] vk_81 20 vc_81 713 10 = true := by decide +kernel
theorem vx_81_72 : vm_chk bt_85 [] vk_81 20 vc_81 723 10 = true := by decide +kernel
theorem vx_81_73 : vm_chk bt_85 [] vk_81 20 vc_81 733 10 = true := by decide +kernel
theorem vx_81_74 : vm_chk bt_85 [] vk_81 20 vc_81 743 10 = true := by decide +kernel
theorem vx_81_75 : vm_chk bt_85 [] vk_81 20 vc_81 753 10 = true := by decide +kernel
theorem vx_81_76 : vm_chk bt_85 [] vk_81 20 vc_81 763 10 = true := by decide +kernel
theorem vx_81_77 : vm_chk bt_85 [] vk_81 20 vc_81 773 10 = true := by decide +kernel
theorem vx_81_78 : vm_chk bt_85 [] vk_81 20 vc_81 783 10 = true := by decide +kernel
theorem vx_81_79 : vm_chk bt_85 [] vk_81 20 vc_81 793 10 = true := by decide +kernel
theorem vx_81_80 : vm_chk bt_85 [] vk_81 20 vc_81 803 10 = true := by decide +kernel
theorem vx_81_81 : vm_chk bt_85 [] vk_81 20 vc_81 813 10 = true := by decide +kernel
theorem vx_81_82 : vm_chk bt_85 [] vk_81 20 vc_81 823 10 = true := by decide +kernel
theorem vx_81_83 : vm_chk bt_85 [] vk_81 20 vc_81 833 10 = true := by decide +kernel
theorem vx_81_84 : vm_chk bt_85 [] vk_81 20 vc_81 843 10 = true := by decide +kernel
theorem vx_81_85 : vm_chk bt_85 [] vk_81 20 vc_81 853 10 = true := by decide +kernel
theorem vx_81_86 : vm_chk bt_85 [] vk_81 20 vc_81 863 10 = true := by decide +kernel
theorem vx_81_87 : vm_chk bt_85 [] vk_81 20 vc_81 873 10 = true := by decide +kernel
theorem vx_81_88 : vm_chk bt_85 [] vk_81 20 vc_81 883 10 = true := by decide +kernel
theorem vx_81_89 : vm_chk bt_85 [] vk_81 20 vc_81 893 10 = true := by decide +kernel
theorem vx_81_90 : vm_chk bt_85 [] vk_81 20 vc_81 903 10 = true := by decide +kernel
theorem vx_81_91 : vm_chk bt_85 [] vk_81 20 vc_81 913 10 = true := by decide +kernel
theorem vx_81_92 : vm_chk bt_85 [] vk_81 20 vc_81 923 10 = true := by decide +kernel
theorem vx_81_93 : vm_chk bt_85 [] vk_81 20 vc_81 933 10 = true := by decide +kernel
theorem vx_81_94 : vm_chk bt_85 [] vk_81 20 vc_81 943 10 = true := by decide +kernel
theorem vx_81_95 : vm_chk bt_85 [] vk_81 20 vc_81 953 10 = true := by decide +kernel
theorem vx_81_96 : vm_chk bt_85 [] vk_81 20 vc_81 963 10 = true := by decide +kernel
theorem vx_81_97 : vm_chk bt_85 [] vk_81 20 vc_81 973 10 = true := by decide +kernel
theorem vx_81_98 : vm_chk bt_85 [] vk_81 20 vc_81 983 10 = true := by decide +kernel
theorem vx_81_99 : vm_chk bt_85 [] vk_81 20 vc_81 993 10 = true := by decide +kernel
theorem vx_81_100 : vm_chk bt_85 [] vk_81 20 vc_81 1003 10 = true := by decide +kernel
theorem vx_81_101 : vm_chk bt_85 [] vk_81 20 vc_81 1013 10 = true := by decide +kernel
theorem vx_81_102 : vm_chk bt_85 [] vk_81 20 vc_81 1023 10 = true := by decide +kernel
theorem vx_81_103 : vm_chk bt_85 [] vk_81 20 vc_81 1033 10 = true := by decide +kernel
theorem vx_81_104 : vm_chk bt_85 [] vk_81 20 vc_81 1043 10 = true := by decide +kernel
theorem vx_81_105 : vm_chk bt_85 [] vk_81 20 vc_81 1053 10 = true := by decide +kernel
theorem vx_81_106 : vm_chk bt_85 [] vk_81 20 vc_81 1063 10 = true := by decide +kernel
theorem vx_81_107 : vm_chk bt_85 [] vk_81 20 vc_81 1073 10 = true := by decide +kernel
theorem vx_81_108 : vm_chk bt_85 [] vk_81 20 vc_81 1083 10 = true := by decide +kernel
theorem vx_81_109 : vm_chk bt_85 [] vk_81 20 vc_81 1093 10 = true := by decide +kernel
theorem vx_81_110 : vm_chk bt_85 [] vk_81 20 vc_81 1103 10 = true := by decide +kernel
theorem vx_81_111 : vm_chk bt_85 [] vk_81 20 vc_81 1113 10 = true := by decide +kernel
theorem vx_81_112 : vm_chk bt_85 [] vk_81 20 vc_81 1123 10 = true := by decide +kernel
theorem vx_81_113 : vm_chk bt_85 [] vk_81 20 vc_81 1133 10 = true := by decide +kernel
theorem vx_81_114 : vm_chk bt_85 [] vk_81 20 vc_81 1143 10 = true := by decide +kernel
theorem vx_81_115 : vm_chk bt_85 [] vk_81 20 vc_81 1153 10 = true := by decide +kernel
theorem vx_81_116 : vm_chk bt_85 [] vk_81 20 vc_81 1163 10 = true := by decide +kernel
theorem vx_81_117 : vm_chk bt_85 [] vk_81 20 vc_81 1173 10 = true := by decide +kernel
theorem vx_81_118 : vm_chk bt_85 [] vk_81 20 vc_81 1183 10 = true := by decide +kernel
theorem vx_81_119 : vm_chk bt_85 [] vk_81 20 vc_81 1193 10 = true := by decide +kernel
theorem vx_81_120 : vm_chk bt_85 [] vk_81 20 vc_81 1203 10 = true := by decide +kernel
theorem vx_81_121 : vm_chk bt_85 [] vk_81 20 vc_81 1213 10 = true := by decide +kernel
theorem vx_81_122 : vm_chk bt_85 [] vk_81 20 vc_81 1223 10 = true := by decide +kernel
theorem vx_81_123 : vm_chk bt_85 [] vk_81 20 vc_81 1233 10 = true := by decide +kernel
theorem vx_81_124 : vm_chk bt_85 [] vk_81 20 vc_81 1243 10 = true := by decide +kernel
theorem vx_81_125 : vm_chk bt_85 [] vk_81 20 vc_81 1253 10 = true := by decide +kernel
theorem vx_81_126 : vm_chk bt_85 [] vk_81 20 vc_81 1263 10 = true := by decide +kernel
theorem vx_81_127 : vm_chk bt_85 [] vk_81 20 vc_81 1273 10 = true := by decide +kernel
theorem vx_81_128 : vm_chk bt_85 [] vk_81 20 vc_81 1283 10 = true := by decide +kernel
theorem vx_81_129 : vm_chk bt_85 [] vk_81 20 vc_81 1293 10 = true := by decide +kernel
theorem vx_81_130 : vm_chk bt_85 [] vk_81 20 vc_81 1303 10 = true := by decide +kernel
theorem vx_81_131 : vm_chk bt_85 [] vk_81 20 vc_81 1313 10 = true := by decide +kernel
theorem vx_81_132 : vm_chk bt_85 [] vk_81 20 vc_81 1323 10 = true := by decide +kernel
theorem vx_81_133 : vm_chk bt_85 [] vk_81 20 vc_81 1333 10 = true := by decide +kernel
theorem vx_81_134 : vm_chk bt_85 [] vk_81 20 vc_81 1343 10 = true := by decide +kernel
theorem vx_81_135 : vm_chk bt_85 [] vk_81 20 vc_81 1353 10 = true := by decide +kernel
theorem vx_81_136 : vm_chk bt_85 [] vk_81 20 vc_81 1363 10 = true := by decide +kernel
theorem vx_81_137 : vm_chk bt_85 [] vk_81 20 vc_81 1373 10 = true := by decide +kernel
theorem vx_81_138 : vm_chk bt_85 [] vk_81 20 vc_81 1383 10 = true := by decide +kernel
theorem vx_81_139 : vm_chk bt_85 [] vk_81 20 vc_81 1393 10 = true := by decide +kernel
theorem vx_81_140 : vm_chk bt_85 [] vk_81 20 vc_81 1403 10 = true := by decide +kernel
theorem vx_81_141 : vm_chk bt_85 [] vk_81 20 vc_81 1413 10 = true := by decide +kernel
theorem vx_81_142 : vm_chk bt_85 [] vk_81 20 vc_81 1423 10 = true := by decide +kernel
theorem vx_81_143 : vm_chk bt_85 [] vk_81 20 vc_81 1433 10 = true := by decide +kernel
theorem vx_81_144 : vm_chk bt_85 [] vk_81 20 vc_81 1443 10 = true := by decide +kernel
theorem vx_81_145 : vm_chk bt_85 [] vk_81 20 vc_81 1453 10 = true := by decide +kernel
theorem vx_81_146 : vm_chk bt_85 [] vk_81 20 vc_81 1463 10 = true := by decide +kernel
theorem vx_81_147 : vm_chk bt_85 [] vk_81 20 vc_81 1473 10 = true := by decide +kernel
theorem vx_81_148 : vm_chk bt_85 [] vk_81 20 vc_81 1483 10 = true := by decide +kernel
theorem vx_81_149 : vm_chk bt_85 [] vk_81 20 vc_81 1493 10 = true := by decide +kernel
theorem vx_81_150 : vm_chk bt_85 [] vk_81 20 vc_81 1503 10 = true := by decide +kernel
theorem vx_81_151 : vm_chk bt_85 [] vk_81 20 vc_81 1513 10 = true := by decide +kernel
theorem vx_81_152 : vm_chk bt_85 [] vk_81 20 vc_81 1523 10 = true := by decide +kernel
theorem vx_81_153 : vm_chk bt_85 [] vk_81 20 vc_81 1533 10 = true := by decide +kernel
theorem vx_81_154 : vm_chk bt_85 [] vk_81 20 vc_81 1543 10 = true := by decide +kernel
theorem vx_81_155 : vm_chk bt_85 [] vk_81 20 vc_81 1553 10 = true := by decide +kernel
theorem vx_81_156 : vm_chk bt_85 [] vk_81 20 vc_81 1563 10 = true := by decide +kernel
theorem vx_81_157 : vm_chk bt_85 [] vk_81 20 vc_81 1573 10 = true := by decide +kernel
theorem vx_81_158 : vm_chk bt_85 [] vk_81 20 vc_81 1583 10 = true := by decide +kernel
theorem vx_81_159 : vm_chk bt_85 [] vk_81 20 vc_81 1593 10 = true := by decide +kernel
theorem vx_81_160 : vm_chk bt_85 [] vk_81 20 vc_81 1603 10 = true := by decide +kernel
theorem vx_81_161 : vm_chk bt_85 [] vk_81 20 vc_81 1613 10 = true := by decide +kernel
theorem vx_81_162 : vm_chk bt_85 [] vk_81 20 vc_81 1623 10 = true := by decide +kernel
theorem vx_81_163 : vm_chk bt_85 [] vk_81 20 vc_81 1633 10 = true := by decide +kernel
theorem vx_81_164 : vm_chk bt_85 [] vk_81 20 vc_81 1643 10 = true := by decide +kernel
theorem vx_81_165 : vm_chk bt_85 [] vk_81 20 vc_81 1653 10 = true := by decide +kernel
theorem vx_81_166 : vm_chk bt_85 [] vk_81 20 vc_81 1663 10 = true := by decide +kernel
theorem vx_81_167 : vm_chk bt_85 [] vk_81 20 vc_81 1673 10 = true := by decide +kernel
theorem vx_81_168 : vm_chk bt_85 [] vk_81 20 vc_81 1683 10 = true := by decide +kernel
theorem vx_81_169 : vm_chk bt_85 [] vk_81 20 vc_81 1693 10 = true := by decide +kernel
theorem vx_81_170 : vm_chk bt_85 [] vk_81 20 vc_81 1703 10 = true := by decide +kernel
theorem vx_81_171 : vm_chk bt_85 [] vk_81 20 vc_81 1713 10 = true := by decide +kernel
theorem vx_81_172 : vm_chk bt_85 [] vk_81 20 vc_81 1723 10 = true := by decide +kernel
theorem vx_81_173 : vm_chk bt_85 [] vk_81 20 vc_81 1733 10 = true := by decide +kernel
theorem vx_81_174 : vm_chk bt_85 [] vk_81 20 vc_81 1743 10 = true := by decide +kernel
theorem vx_81_175 : vm_chk bt_85 [] vk_81 20 vc_81 1753 10 = true := by decide +kernel
theorem vx_81_176 : vm_chk bt_85 [] vk_81 20 vc_81 1763 10 = true := by decide +kernel
theorem vx_81_177 : vm_chk bt_85 [] vk_81 20 vc_81 1773 10 = true := by decide +kernel
theorem vx_81_178 : vm_chk bt_85 [] vk_81 20 vc_81 1783 10 = true := by decide +kernel
theorem vx_81_179 : vm_chk bt_85 [] vk_81 20 vc_81 1793 10 = true := by decide +kernel
theorem vx_81_180 : vm_chk bt_85 [] vk_81 20 vc_81 1803 10 = true := by decide +kernel
theorem vx_81_181 : vm_chk bt_85 [] vk_81 20 vc_81 1813 10 = true := by decide +kernel
theorem vx_81_182 : vm_chk bt_85 [] vk_81 20 vc_81 1823 10 = true := by decide +kernel
theorem vx_81_183 : vm_chk bt_85 [] vk_81 20 vc_81 1833 10 = true := by decide +kernel
theorem vx_81_184 : vm_chk bt_85 [] vk_81 20 vc_81 1843 10 = true := by decide +kernel
theorem vx_81_185 : vm_chk bt_85 [] vk_81 20 vc_81 1853 10 = true := by decide +kernel
theorem vx_81_186 : vm_chk bt_85 [] vk_81 20 vc_81 1863 10 = true := by decide +kernel
theorem vx_81_187 : vm_chk bt_85 [] vk_81 20 vc_81 1873 10 = true := by decide +kernel
theorem vx_81_188 : vm_chk bt_85 [] vk_81 20 vc_81 1883 10 = true := by decide +kernel
theorem vx_81_189 : vm_chk bt_85 [] vk_81 20 vc_81 1893 10 = true := by decide +kernel
theorem vx_81_190 : vm_chk bt_85 [] vk_81 20 vc_81 1903 10 = true := by decide +kernel
theorem vx_81_191 : vm_chk bt_85 [] vk_81 20 vc_81 1913 10 = true := by decide +kernel
theorem vx_81_192 : vm_chk bt_85 [] vk_81 20 vc_81 1923 10 = true := by decide +kernel
theorem vx_81_193 : vm_chk bt_85 [] vk_81 20 vc_81 1933 10 = true := by decide +kernel
theorem vx_81_194 : vm_chk bt_85 [] vk_81 20 vc_81 1943 10 = true := by decide +kernel
theorem vx_81_195 : vm_chk bt_85 [] vk_81 20 vc_81 1953 1 = true := by decide +kernel
theorem vy_81 : vm_ents 85 20 vc_81 ve_81 = true := by decide +kernel
theorem vgr_81_0 (i : Nat) : i < 403 → ∃ lo k, lo ≤ i ∧ i < lo + k ∧ vm_chk bt_85 [] vk_81 20 vc_81 lo k = true := vm_hc vx_81_39 rfl (vm_hc vx_81_38 rfl (vm_hc vx_81_37 rfl (vm_hc vx_81_36 rfl (vm_hc vx_81_35 rfl (vm_hc vx_81_34 rfl (vm_hc vx_81_33 rfl (vm_hc vx_81_32 rfl (vm_hc vx_81_31 rfl (vm_hc vx_81_30 rfl (vm_hc vx_81_29 rfl (vm_hc vx_81_28 rfl (vm_hc vx_81_27 rfl (vm_hc vx_81_26 rfl (vm_hc vx_81_25 rfl (vm_hc vx_81_24 rfl (vm_hc vx_81_23 rfl (vm_hc vx_81_22 rfl (vm_hc vx_81_21 rfl (vm_hc vx_81_20 rfl (vm_hc vx_81_19 rfl (vm_hc vx_81_18 rfl (vm_hc vx_81_17 rfl (vm_hc vx_81_16 rfl (vm_hc vx_81_15 rfl (vm_hc vx_81_14 rfl (vm_hc vx_81_13 rfl (vm_hc vx_81_12 rfl (vm_hc vx_81_11 rfl (vm_hc vx_81_10 rfl (vm_hc vx_81_9 rfl (vm_hc vx_81_8 rfl (vm_hc vx_81_7 rfl (vm_hc vx_81_6 rfl (vm_hc vx_81_5 rfl (vm_hc vx_81_4 rfl (vm_hc vx_81_3 rfl (vm_hc vx_81_2 rfl (vm_hc vx_81_1 rfl (vm_hc vx_81_0 rfl (fun h => absurd h (Nat.not_lt_zero _)))))))))))))))))))))))))))))))))))))))))
theorem vgr_81_1 (i : Nat) : i < 803 → ∃ lo k, lo ≤ i ∧ i < lo + k ∧ vm_chk bt_85 [] vk_81 20 vc_81 lo k = true := vm_hc vx_81_79 rfl (vm_hc vx_81_78 rfl (vm_hc vx_81_77 rfl (vm_hc vx_81_76 rfl (vm_hc vx_81_75 rfl (vm_hc vx_81_74 rfl (vm_hc vx_81_73 rfl (vm_hc vx_81_72 rfl (vm_hc vx_81_71 rfl (vm_hc vx_81_70 rfl (vm_hc vx_81_69 rfl (vm_hc vx_81_68 rfl (vm_hc vx_81_67 rfl (vm_hc vx_81_66 rfl (vm_hc vx_81_65 rfl (vm_hc vx_81_64 rfl (vm_hc vx_81_63 rfl (vm_hc vx_81_62 rfl (vm_hc vx_81_61 rfl (vm_hc vx_81_60 rfl (vm_hc vx_81_59 rfl (vm_hc vx_81_58 rfl (vm_hc vx_81_57 rfl (vm_hc vx_81_56 rfl (vm_hc vx_81_55 rfl (vm_hc vx_81_54 rfl (vm_hc vx_81_53 rfl (vm_hc vx_81_52 rfl (vm_hc vx_81_51 rfl (vm_hc vx_81_50 rfl (vm_hc vx_81_49 rfl (vm_hc vx_81_48 rfl (vm_hc vx_81_47 rfl (vm_hc vx_81_46 rfl (vm_hc vx_81_45 rfl (vm_hc vx_81_44 rfl (vm_hc vx_81_43 rfl (vm_hc vx_81_42 rfl (vm_hc vx_81_41 rfl (vm_hc vx_81_40 rfl (vgr_81_0 i))))))))))))))))))))))))))))))))))))))))
theorem vgr_81_2 (i : Nat) : i < 1203 → ∃ lo k, lo ≤ i ∧ i < lo + k ∧ vm_chk bt_85 [] vk_81 20 vc_81 lo k = true := vm_hc vx_81_119 rfl (vm_hc vx_81_118 rfl (vm_hc vx_81_117 rfl (vm_hc vx_81_116 rfl (vm_hc vx_81_115 rfl (vm_hc vx_81_114 rfl (vm_hc vx_81_113 rfl (vm_hc vx_81_112 rfl (vm_hc vx_81_111 rfl (vm_hc vx_81_110 rfl (vm_hc vx_81_109 rfl (vm_hc vx_81_108 rfl (vm_hc vx_81_107 rfl (vm_hc vx_81_106 rfl (vm_hc vx_81_105 rfl (vm_hc vx_81_104 rfl (vm_hc vx_81_103 rfl (vm_hc vx_81_102 rfl (vm_hc vx_81_101 rfl (vm_hc vx_81_100 rfl (vm_hc vx_81_99 rfl (vm_hc vx_81_98 rfl (vm_hc vx_81_97 rfl (vm_hc vx_81_96 rfl (vm_hc vx_81_95 rfl (vm_hc vx_81_94 rfl (vm_hc vx_81_93 rfl (vm_hc vx_81_92 rfl (vm_hc vx_81_91 rfl (vm_hc vx_81_90 rfl (vm_hc vx_81_89 rfl (vm_hc vx_81_88 rfl (vm_hc vx_81_87 rfl (vm_hc vx_81_86 rfl (vm_hc vx_81_85 rfl (vm_hc vx_81_84 rfl (vm_hc vx_81_83 rfl (vm_hc vx_81_82 rfl (vm_hc vx_81_81 rfl (vm_hc vx_81_80 rfl (vgr_81_1 i))))))))))))))))))))))))))))))))))))))))
theorem vgr_81_3 (i : Nat) : i < 1603 → ∃ lo k, lo ≤ i ∧ i < lo + k ∧ vm_chk bt_85 [] vk_81 20 vc_81 lo k = true := vm_hc vx_81_159 rfl (vm_hc vx_81_158 rfl (vm_hc vx_81_157 rfl (vm_hc vx_81_156 rfl (vm_hc vx_81_155 rfl (vm_hc vx_81_154 rfl (vm_hc vx_81_153 rfl (vm_hc vx_81_152 rfl (vm_hc vx_81_151 rfl (vm_hc vx_81_150 rfl (vm_hc vx_81_149 rfl (vm_hc vx_81_148 rfl (vm_hc vx_81_147 rfl (vm_hc vx_81_146 rfl (vm_hc vx_81_145 rfl (vm_hc vx_81_144 rfl (vm_hc vx_81_143 rfl (vm_hc vx_81_142 rfl (vm_hc vx_81_141 rfl (vm_hc vx_81_140 rfl (vm_hc vx_81_139 rfl (vm_hc vx_81_138 rfl (vm_hc vx_81_137 rfl (vm_hc vx_81_136 rfl (vm_hc vx_81_135 rfl (vm_hc vx_81_134 rfl (vm_hc vx_81_133 rfl (vm_hc vx_81_132 rfl (vm_hc vx_81_131 rfl (vm_hc vx_81_130 rfl (vm_hc vx_81_129 rfl (vm_hc vx_81_128 rfl (vm_hc vx_81_127 rfl (vm_hc vx_81_126 rfl (vm_hc vx_81_125 rfl (vm_hc vx_81_124 rfl (vm_hc vx_81_123 rfl (vm_hc vx_81_122 rfl (vm_hc vx_81_121 rfl (vm_hc vx_81_120 rfl (vgr_81_2 i))))))))))))))))))))))))))))))))))))))))
theorem vgr_81_4 (i : Nat) : i < 1954 → ∃ lo k, lo ≤ i ∧ i < lo + k ∧ vm_chk bt_85 [] vk_81 20 vc_81 lo k = true := vm_hc vx_81_195 rfl (vm_hc vx_81_194 rfl (vm_hc vx_81_193 rfl (vm_hc vx_81_192 rfl (vm_hc vx_81_191 rfl (vm_hc vx_81_190 rfl (vm_hc vx_81_189 rfl (vm_hc vx_81_188 rfl (vm_hc vx_81_187 rfl (vm_hc vx_81_186 rfl (vm_hc vx_81_185 rfl (vm_hc vx_81_184 rfl (vm_hc vx_81_183 rfl (vm_hc vx_81_182 rfl (vm_hc vx_81_181 rfl (vm_hc vx_81_180 rfl (vm_hc vx_81_179 rfl (vm_hc vx_81_178 rfl (vm_hc vx_81_177 rfl (vm_hc vx_81_176 rfl (vm_hc vx_81_175 rfl (vm_hc vx_81_174 rfl (vm_hc vx_81_173 rfl (vm_hc vx_81_172 rfl (vm_hc vx_81_171 rfl (vm_hc vx_81_170 rfl (vm_hc vx_81_169 rfl (vm_hc vx_81_168 rfl (vm_hc vx_81_167 rfl (vm_hc vx_81_166 rfl (vm_hc vx_81_165 rfl (vm_hc vx_81_164 rfl (vm_hc vx_81_163 rfl (vm_hc vx_81_162 rfl (vm_hc vx_81_161 rfl (vm_hc vx_81_160 rfl (vgr_81_3 i))))))))))))))))))))))))))))))))))))
theorem vw_81 : ∀ q ∈ vk_81, vm_wt 5 q := vm_wts (vm_kc (vm_up v_38 rfl) (vm_kc (vm_up v_68 rfl) (vm_kc (vm_up v_32 rfl) vm_kn))) (by decide +kernel)
theorem v_81 : vm_at 6 q_81 := vm_ok (inl := []) (es := ve_81) bq_85 (by decide) vw_81 vy_81 (fun i => vgr_81_4 i) _ List.mem_cons_self
noncomputable def vp_82 : List vm_R := [(some (.inl (.ofNat 0, .ofNat 1)), va_h0)]
noncomputable def ve_82 : List vm_E := [([.inr (.inr (some 34)), .inr (.inr (some 20)), .inl am_top, .inl (.ofNat 0, .ofNat 12)], va_h0, 0, [0])]
noncomputable def q_82 : vm_Q := (97, [.inr (.inr (some 34)), .inr (.inr (some 20)), .inl am_top, .inl (.ofNat 0, .ofNat 12)], va_h0, vp_82)
noncomputable def vk_82 : List vm_U := [(q_37, false, []), (q_69, false, []), (q_36, false, []), (q_28, true, [])]
noncomputable def vf_82 : List ((Nat → am_I) → vm_A) := [fun v => (0, [(0, .inr (.inr (some 34))), (1, .inr (.inr (some 20))), (2, .inl am_top), (3, .inl (.ofNat 0, .ofNat 12))], [], (80, []))]
noncomputable def vd_82_0_0 : List (List Nat) := [[0]]
noncomputable def vd_82_0 : List (List (List Nat)) := [vd_82_0_0]
noncomputable def vd_82 : List (List (List (List Nat))) := [vd_82_0]
noncomputable def vt_82 : List (List am_I) := []
noncomputable def vc_82 : vm_C := (fun _ => vp_82, fun pc => [], [], 1, vm_inst 8 1 vt_82 vf_82 vd_82)
theorem vx_82_0 : vm_chk bt_97 [] vk_82 20 vc_82 0 1 = true := by decide +kernel
theorem vy_82 : vm_ents 97 20 vc_82 ve_82 = true := by decide +kernel
theorem vw_82 : ∀ q ∈ vk_82, vm_wt 6 q := vm_wts (vm_kc (vm_up v_37 rfl) (vm_kc (vm_up v_69 rfl) (vm_kc (vm_up v_36 rfl) (vm_kc (vm_up v_28 rfl) vm_kn)))) (by decide +kernel)
theorem v_82 : vm_at 7 q_82 := vm_ok (inl := []) (es := ve_82) bq_97 (by decide) vw_82 vy_82 (fun i => vm_hc vx_82_0 rfl (fun h => absurd h (Nat.not_lt_zero _))) _ List.mem_cons_self
noncomputable def vp_83 : List vm_R := [(some (.inl (.ofNat 1, .ofNat 1024)), va_h0)]
noncomputable def ve_83 : List vm_E := [([.inl (.ofNat 0, .ofNat 5)], va_h0, 0, [0, 1, 2, 3, 4, 5])]
noncomputable def q_83 : vm_Q := (93, [.inl (.ofNat 0, .ofNat 5)], va_h0, vp_83)
noncomputable def vk_83 : List vm_U := []
noncomputable def vf_83 : List ((Nat → am_I) → vm_A) := [fun v => (0, [(0, .inl (v 0))], [], (80, []))]
noncomputable def vd_83_0_0 : List (List Nat) := [[83886080, 67108864, 50331648, 33554432, 16777216, 0]]
noncomputable def vd_83_0 : List (List (List Nat)) := [vd_83_0_0]
noncomputable def vd_83 : List (List (List (List Nat))) := [vd_83_0]
noncomputable def vt_83 : List (List am_I) := []
noncomputable def vc_83 : vm_C := (fun _ => vp_83, fun pc => (match Nat.beq pc 0 with
  | true => [(fun _ _ => some (.inl 0), fun _ _ => some [.ofNat 0, .ofNat 1, .ofNat 2, .ofNat 3, .ofNat 4, .ofNat 5, .ofNat 6])]
  | false => []), [], 6, vm_inst 8 6 vt_83 vf_83 vd_83)
theorem vx_83_0 : vm_chk bt_93 [] vk_83 8 vc_83 0 6 = true := by decide +kernel
theorem vy_83 : vm_ents 93 8 vc_83 ve_83 = true := by decide +kernel
theorem vw_83 : ∀ q ∈ vk_83, vm_wt 1 q := vm_wts vm_kn (by decide +kernel)
theorem v_83 : vm_at 2 q_83 := vm_ok (inl := []) (es := ve_83) bq_93 (by decide) vw_83 vy_83 (fun i => vm_hc vx_83_0 rfl (fun h => absurd h (Nat.not_lt_zero _))) _ List.mem_cons_self
