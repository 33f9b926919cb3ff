noncomputable def vp_941 : List vm_R := [(none, va_h168), (none, va_h342)]
noncomputable def ve_941 : List vm_E := [([.inr (.inr (some 70)), .inl (.ofNat 0, .ofNat 0)], va_h340, 0, [0])]
noncomputable def q_941 : vm_Q := (159, [.inr (.inr (some 70)), .inl (.ofNat 0, .ofNat 0)], va_h340, vp_941)
noncomputable def vk_941 : List vm_U := [(q_918, false, [(7, 62, 7)]), (q_933, false, [(7, 62, 6), (7, 62, 7)])]
noncomputable def vf_941 : List ((Nat → am_I) → vm_A) := [fun v => (0, [(0, .inr (.inr (some 70))), (1, .inl (.ofNat 0, .ofNat 0))], [], (80, [(62, va_c225)]))]
noncomputable def vd_941_0_0 : List (List Nat) := [[0]]
noncomputable def vd_941_0 : List (List (List Nat)) := [vd_941_0_0]
noncomputable def vd_941 : List (List (List (List Nat))) := [vd_941_0]
noncomputable def vt_941 : List (List am_I) := []
noncomputable def vc_941 : vm_C := (fun _ => vp_941, fun pc => [], [69], 1, vm_inst 8 1 vt_941 vf_941 vd_941)
theorem vx_941_0 : vm_chk bt_159 [] vk_941 18 vc_941 0 1 = true := by decide +kernel
theorem vy_941 : vm_ents 159 18 vc_941 ve_941 = true := by decide +kernel
theorem vw_941 : ∀ q ∈ vk_941, vm_wt 4 q := vm_wts (vm_kc (vm_up v_918 rfl) (vm_kc (vm_up v_933 rfl) vm_kn)) (by decide +kernel)
theorem v_941 : vm_at 5 q_941 := vm_ok (inl := []) (es := ve_941) bq_159 (by decide) vw_941 vy_941 (fun i => vm_hc vx_941_0 rfl (fun h => absurd h (Nat.not_lt_zero _))) _ List.mem_cons_self
noncomputable def vp_957 : List vm_R := [(none, va_h168), (none, va_h346), (none, va_h347)]
noncomputable def ve_957 : List vm_E := [([.inr (.inr (some 70)), .inl (.ofNat 0, .ofNat 0)], va_h353, 0, [0])]
noncomputable def q_957 : vm_Q := (159, [.inr (.inr (some 70)), .inl (.ofNat 0, .ofNat 0)], va_h353, vp_957)
noncomputable def vk_957 : List vm_U := [(q_918, false, [(7, 62, 7)]), (q_933, false, [(7, 62, 6), (7, 62, 7)]), ((q_F_rn_2_5 159), false, [(7, 62, 6), (7, 62, 7)])]
noncomputable def vf_957 : List ((Nat → am_I) → vm_A) := [fun v => (0, [(0, .inr (.inr (some 70))), (1, .inl (.ofNat 0, .ofNat 0))], [], (80, [(62, va_c240)]))]
noncomputable def vd_957_0_0 : List (List Nat) := [[0]]
noncomputable def vd_957_0 : List (List (List Nat)) := [vd_957_0_0]
noncomputable def vd_957 : List (List (List (List Nat))) := [vd_957_0]
noncomputable def vt_957 : List (List am_I) := []
noncomputable def vc_957 : vm_C := (fun _ => vp_957, fun pc => [], [69], 1, vm_inst 8 1 vt_957 vf_957 vd_957)
theorem vx_957_0 : vm_chk bt_159 [] vk_957 18 vc_957 0 1 = true := by decide +kernel
theorem vy_957 : vm_ents 159 18 vc_957 ve_957 = true := by decide +kernel
theorem vw_957 : ∀ q ∈ vk_957, vm_wt 4 q := vm_wts (vm_kc (vm_up v_918 rfl) (vm_kc (vm_up v_933 rfl) (vm_kc (vm_up (v_F_rn_2_5 159 (by decide) (by decide)) rfl) vm_kn))) (by decide +kernel)
theorem v_957 : vm_at 5 q_957 := vm_ok (inl := []) (es := ve_957) bq_159 (by decide) vw_957 vy_957 (fun i => vm_hc vx_957_0 rfl (fun h => absurd h (Nat.not_lt_zero _))) _ List.mem_cons_self
noncomputable def vp_3501 : List vm_R := [(none, va_h168), (none, va_h344), (none, va_h343)]
noncomputable def ve_3501 : List vm_E := [([.inr (.inr (some 70)), .inl (.ofNat 0, .ofNat 0)], va_h167, 0, [0])]
noncomputable def q_3501 : vm_Q := (159, [.inr (.inr (some 70)), .inl (.ofNat 0, .ofNat 0)], va_h167, vp_3501)
noncomputable def vk_3501 : List vm_U := [(q_918, false, [(7, 62, 7)]), ((q_F_rn_2_5 1), false, [(7, 62, 6), (7, 62, 7)]), (q_3493, false, [(7, 62, 6), (7, 62, 7)])]
noncomputable def vf_3501 : List ((Nat → am_I) → vm_A) := [fun v => (0, [(0, .inr (.inr (some 70))), (1, .inl (.ofNat 0, .ofNat 0))], [], (80, [(62, va_c52)]))]
noncomputable def vd_3501_0_0 : List (List Nat) := [[0]]
noncomputable def vd_3501_0 : List (List (List Nat)) := [vd_3501_0_0]
noncomputable def vd_3501 : List (List (List (List Nat))) := [vd_3501_0]
noncomputable def vt_3501 : List (List am_I) := []
noncomputable def vc_3501 : vm_C := (fun _ => vp_3501, fun pc => [], [69], 1, vm_inst 8 1 vt_3501 vf_3501 vd_3501)
theorem vx_3501_0 : vm_chk bt_159 [] vk_3501 18 vc_3501 0 1 = true := by decide +kernel
theorem vy_3501 : vm_ents 159 18 vc_3501 ve_3501 = true := by decide +kernel
theorem vw_3501 : ∀ q ∈ vk_3501, vm_wt 4 q := vm_wts (vm_kc (vm_up v_918 rfl) (vm_kc (vm_up (v_F_rn_2_5 1 (by decide) (by decide)) rfl) (vm_kc (vm_up v_3493 rfl) vm_kn))) (by decide +kernel)
theorem v_3501 : vm_at 5 q_3501 := vm_ok (inl := []) (es := ve_3501) bq_159 (by decide) vw_3501 vy_3501 (fun i => vm_hc vx_3501_0 rfl (fun h => absurd h (Nat.not_lt_zero _))) _ List.mem_cons_self
noncomputable def vp_F_rlo_0 (s : Nat) : List vm_R := [(none, (80, [(62, .inr (.inr (.inr (7, [.inr (.inr (some 71)), .inr (.inr (some 72)), .inl (.ofNat 2, .ofNat 5), .inl (.ofNat 2, .ofNat 5), .inl (.ofNat 0, .ofNat 5), .inr (.inr (some 73)), .inl (.ofNat 0, .ofNat 5), .inl (.ofNat 0, .ofNat 5), .inl (.ofNat 0, .ofNat 5), .inl am_top, .inl am_top, .inl am_top, .inr (.inr (some 74)), .inl (.ofNat 0, .ofNat 160), .inl (.ofNat 0, .ofNat 160), .inl (.ofNat 0, .ofNat 160), .inl (.ofNat 0, .ofNat 3), .inl am_top, .inl (.ofNat 1, .ofNat 6), .inl am_top, .inr (.inr (some 75)), .inr (.inr (some 76)), .inr (.inr (some 77)), .inr (.inr (some 78)), .inr (.inr (some 79)), .inr (.inr (some 80)), .inr (.inr (some 81)), .inl (.negSucc 0, .ofNat 6), .inr (.inr (some 82)), .inr (.inr (some 83)), .inr (.inr (some 84)), .inr (.inr (some 85)), .inr (.inr (some 86)), .inl am_top, .inr (.inr (some 87))]))))])), (none, (80, [(62, .inr (.inr (.inr (7, [.inr (.inr (some 71)), .inr (.inr (some 72)), .inl (.ofNat 2, .ofNat 5), .inl (.ofNat 2, .ofNat 5), .inl (.ofNat 0, .ofNat 5), .inr (.inr (some 73)), .inl (.ofNat 2, .ofNat 5), .inl (.ofNat 2, .ofNat 5), .inl (.ofNat 0, .ofNat 5), .inl am_top, .inl am_top, .inl am_top, .inr (.inr (some 74)), .inl (.ofNat 0, .ofNat 160), .inl (.ofNat (s + 1), .ofNat 160), .inl (.ofNat 0, .ofNat 160), .inl (.ofNat 1, .ofNat 3), .inl am_top, .inl (.ofNat 0, .ofNat 0), .inl am_top, .inr (.inr (some 75)), .inr (.inr (some 76)), .inr (.inr (some 77)), .inr (.inr (some 78)), .inr (.inr (some 79)), .inr (.inr (some 80)), .inr (.inr (some 81)), .inl (.negSucc 0, .ofNat 6), .inr (.inr (some 82)), .inr (.inr (some 83)), .inr (.inr (some 84)), .inr (.inr (some 85)), .inr (.inr (some 86)), .inl am_top, .inr (.inr (some 87))]))))])), (none, (80, [(62, .inr (.inr (.inr (7, [.inr (.inr (some 71)), .inr (.inr (some 72)), .inl (.ofNat 2, .ofNat 5), .inl (.ofNat 2, .ofNat 5), .inl (.ofNat 0, .ofNat 5), .inr (.inr (some 73)), .inl (.ofNat 2, .ofNat 5), .inl (.ofNat 2, .ofNat 5), .inl (.ofNat 0, .ofNat 5), .inl am_top, .inl am_top, .inl am_top, .inr (.inr (some 74)), .inl (.ofNat 0, .ofNat 160), .inl (.ofNat (s + 0), .ofNat 160), .inl (.ofNat 0, .ofNat 160), .inl (.ofNat 0, .ofNat 0), .inl am_top, .inl (.ofNat 0, .ofNat 0), .inl am_top, .inr (.inr (some 75)), .inr (.inr (some 76)), .inr (.inr (some 77)), .inr (.inr (some 78)), .inr (.inr (some 79)), .inr (.inr (some 80)), .inr (.inr (some 81)), .inl (.negSucc 0, .ofNat 6), .inr (.inr (some 82)), .inr (.inr (some 83)), .inr (.inr (some 84)), .inr (.inr (some 85)), .inr (.inr (some 86)), .inl am_top, .inr (.inr (some 87))]))))]))]
noncomputable def vk_F_rlo_0 (s : Nat) : List vm_U := [(q_918, false, [(7, 62, 7)]), ((q_F_rn_2_5 (s + 1)), false, [(7, 62, 6), (7, 62, 7)]), ((q_F_rn_2_5 (s + 0)), false, [(7, 62, 6), (7, 62, 7)])]
noncomputable def vf_F_rlo_0 (s : Nat) : List ((Nat → am_I) → vm_A) := [fun v => (0, [(0, .inr (.inr (some 70))), (1, .inl (.ofNat 0, .ofNat 0))], [], (80, [(62, .inr (.inr (.inr (7, [.inr (.inr (some 71)), .inr (.inr (some 72)), .inl (.ofNat 2, .ofNat 5), .inl (.ofNat 2, .ofNat 5), .inl (.ofNat 0, .ofNat 5), .inr (.inr (some 73)), .inl (.ofNat 2, .ofNat 5), .inl (.ofNat 2, .ofNat 5), .inl (.ofNat 0, .ofNat 5), .inl am_top, .inl am_top, .inl am_top, .inr (.inr (some 74)), .inl (.ofNat 0, .ofNat 160), .inl (.ofNat (s + 0), .ofNat 160), .inl (.ofNat 0, .ofNat 160), .inl (.ofNat 0, .ofNat 3), .inl am_top, .inl (.ofNat 0, .ofNat 0), .inl am_top, .inr (.inr (some 75)), .inr (.inr (some 76)), .inr (.inr (some 77)), .inr (.inr (some 78)), .inr (.inr (some 79)), .inr (.inr (some 80)), .inr (.inr (some 81)), .inl (.negSucc 0, .ofNat 6), .inr (.inr (some 82)), .inr (.inr (some 83)), .inr (.inr (some 84)), .inr (.inr (some 85)), .inr (.inr (some 86)), .inl am_top, .inr (.inr (some 87))]))))]))]
noncomputable def vd_F_rlo_0_0_0 (s : Nat) : List (List Nat) := [[0]]
noncomputable def vd_F_rlo_0_0 (s : Nat) : List (List (List Nat)) := [vd_F_rlo_0_0_0 s]
noncomputable def vd_F_rlo_0 (s : Nat) : List (List (List (List Nat))) := [vd_F_rlo_0_0 s]
noncomputable def vt_F_rlo_0 (s : Nat) : List (List am_I) := []
noncomputable def vc_F_rlo_0 (s : Nat) : vm_C := (fun _ => vp_F_rlo_0 s, fun pc => [], [69], 1, vm_inst 8 1 (vt_F_rlo_0 s) (vf_F_rlo_0 s) (vd_F_rlo_0 s))
noncomputable def ve_F_rlo_0 (s : Nat) : List vm_E := [([.inr (.inr (some 70)), .inl (.ofNat 0, .ofNat 0)], (80, [(62, .inr (.inr (.inr (7, [.inr (.inr (some 71)), .inr (.inr (some 72)), .inl (.ofNat 2, .ofNat 5), .inl (.ofNat 2, .ofNat 5), .inl (.ofNat 0, .ofNat 5), .inr (.inr (some 73)), .inl (.ofNat 2, .ofNat 5), .inl (.ofNat 2, .ofNat 5), .inl (.ofNat 0, .ofNat 5), .inl am_top, .inl am_top, .inl am_top, .inr (.inr (some 74)), .inl (.ofNat 0, .ofNat 160), .inl (.ofNat (s + 0), .ofNat 160), .inl (.ofNat 0, .ofNat 160), .inl (.ofNat 0, .ofNat 3), .inl am_top, .inl (.ofNat 0, .ofNat 0), .inl am_top, .inr (.inr (some 75)), .inr (.inr (some 76)), .inr (.inr (some 77)), .inr (.inr (some 78)), .inr (.inr (some 79)), .inr (.inr (some 80)), .inr (.inr (some 81)), .inl (.negSucc 0, .ofNat 6), .inr (.inr (some 82)), .inr (.inr (some 83)), .inr (.inr (some 84)), .inr (.inr (some 85)), .inr (.inr (some 86)), .inl am_top, .inr (.inr (some 87))]))))]), 0, [0])]
noncomputable def q_F_rlo_0 (s : Nat) : vm_Q := (159, [.inr (.inr (some 70)), .inl (.ofNat 0, .ofNat 0)], (80, [(62, .inr (.inr (.inr (7, [.inr (.inr (some 71)), .inr (.inr (some 72)), .inl (.ofNat 2, .ofNat 5), .inl (.ofNat 2, .ofNat 5), .inl (.ofNat 0, .ofNat 5), .inr (.inr (some 73)), .inl (.ofNat 2, .ofNat 5), .inl (.ofNat 2, .ofNat 5), .inl (.ofNat 0, .ofNat 5), .inl am_top, .inl am_top, .inl am_top, .inr (.inr (some 74)), .inl (.ofNat 0, .ofNat 160), .inl (.ofNat (s + 0), .ofNat 160), .inl (.ofNat 0, .ofNat 160), .inl (.ofNat 0, .ofNat 3), .inl am_top, .inl (.ofNat 0, .ofNat 0), .inl am_top, .inr (.inr (some 75)), .inr (.inr (some 76)), .inr (.inr (some 77)), .inr (.inr (some 78)), .inr (.inr (some 79)), .inr (.inr (some 80)), .inr (.inr (some 81)), .inl (.negSucc 0, .ofNat 6), .inr (.inr (some 82)), .inr (.inr (some 83)), .inr (.inr (some 84)), .inr (.inr (some 85)), .inr (.inr (some 86)), .inl am_top, .inr (.inr (some 87))]))))]), vp_F_rlo_0 s)
theorem vx_F_rlo_0_0 : vm_rng (fun s => vm_chk bt_159 [] (vk_F_rlo_0 s) 18 (vc_F_rlo_0 s) 0 1 && (vm_ents 159 18 (vc_F_rlo_0 s) (ve_F_rlo_0 s) && vm_kok (vk_F_rlo_0 s))) 1 6 = true := by decide +kernel
theorem vx_F_rlo_0_1 : vm_rng (fun s => vm_chk bt_159 [] (vk_F_rlo_0 s) 18 (vc_F_rlo_0 s) 0 1 && (vm_ents 159 18 (vc_F_rlo_0 s) (ve_F_rlo_0 s) && vm_kok (vk_F_rlo_0 s))) 7 6 = true := by decide +kernel
theorem vx_F_rlo_0_2 : vm_rng (fun s => vm_chk bt_159 [] (vk_F_rlo_0 s) 18 (vc_F_rlo_0 s) 0 1 && (vm_ents 159 18 (vc_F_rlo_0 s) (ve_F_rlo_0 s) && vm_kok (vk_F_rlo_0 s))) 13 6 = true := by decide +kernel
theorem vx_F_rlo_0_3 : vm_rng (fun s => vm_chk bt_159 [] (vk_F_rlo_0 s) 18 (vc_F_rlo_0 s) 0 1 && (vm_ents 159 18 (vc_F_rlo_0 s) (ve_F_rlo_0 s) && vm_kok (vk_F_rlo_0 s))) 19 6 = true := by decide +kernel
theorem vx_F_rlo_0_4 : vm_rng (fun s => vm_chk bt_159 [] (vk_F_rlo_0 s) 18 (vc_F_rlo_0 s) 0 1 && (vm_ents 159 18 (vc_F_rlo_0 s) (ve_F_rlo_0 s) && vm_kok (vk_F_rlo_0 s))) 25 6 = true := by decide +kernel
theorem vx_F_rlo_0_5 : vm_rng (fun s => vm_chk bt_159 [] (vk_F_rlo_0 s) 18 (vc_F_rlo_0 s) 0 1 && (vm_ents 159 18 (vc_F_rlo_0 s) (ve_F_rlo_0 s) && vm_kok (vk_F_rlo_0 s))) 31 6 = true := by decide +kernel
theorem vx_F_rlo_0_6 : vm_rng (fun s => vm_chk bt_159 [] (vk_F_rlo_0 s) 18 (vc_F_rlo_0 s) 0 1 && (vm_ents 159 18 (vc_F_rlo_0 s) (ve_F_rlo_0 s) && vm_kok (vk_F_rlo_0 s))) 37 6 = true := by decide +kernel
theorem vx_F_rlo_0_7 : vm_rng (fun s => vm_chk bt_159 [] (vk_F_rlo_0 s) 18 (vc_F_rlo_0 s) 0 1 && (vm_ents 159 18 (vc_F_rlo_0 s) (ve_F_rlo_0 s) && vm_kok (vk_F_rlo_0 s))) 43 6 = true := by decide +kernel
theorem vx_F_rlo_0_8 : vm_rng (fun s => vm_chk bt_159 [] (vk_F_rlo_0 s) 18 (vc_F_rlo_0 s) 0 1 && (vm_ents 159 18 (vc_F_rlo_0 s) (ve_F_rlo_0 s) && vm_kok (vk_F_rlo_0 s))) 49 6 = true := by decide +kernel
theorem vx_F_rlo_0_9 : vm_rng (fun s => vm_chk bt_159 [] (vk_F_rlo_0 s) 18 (vc_F_rlo_0 s) 0 1 && (vm_ents 159 18 (vc_F_rlo_0 s) (ve_F_rlo_0 s) && vm_kok (vk_F_rlo_0 s))) 55 6 = true := by decide +kernel
theorem vx_F_rlo_0_10 : vm_rng (fun s => vm_chk bt_159 [] (vk_F_rlo_0 s) 18 (vc_F_rlo_0 s) 0 1 && (vm_ents 159 18 (vc_F_rlo_0 s) (ve_F_rlo_0 s) && vm_kok (vk_F_rlo_0 s))) 61 6 = true := by decide +kernel
theorem vx_F_rlo_0_11 : vm_rng (fun s => vm_chk bt_159 [] (vk_F_rlo_0 s) 18 (vc_F_rlo_0 s) 0 1 && (vm_ents 159 18 (vc_F_rlo_0 s) (ve_F_rlo_0 s) && vm_kok (vk_F_rlo_0 s))) 67 6 = true := by decide +kernel
theorem vx_F_rlo_0_12 : vm_rng (fun s => vm_chk bt_159 [] (vk_F_rlo_0 s) 18 (vc_F_rlo_0 s) 0 1 && (vm_ents 159 18 (vc_F_rlo_0 s) (ve_F_rlo_0 s) && vm_kok (vk_F_rlo_0 s))) 73 6 = true := by decide +kernel
theorem vx_F_rlo_0_13 : vm_rng (fun s => vm_chk bt_159 [] (vk_F_rlo_0 s) 18 (vc_F_rlo_0 s) 0 1 && (vm_ents 159 18 (vc_F_rlo_0 s) (ve_F_rlo_0 s) && vm_kok (vk_F_rlo_0 s))) 79 6 = true := by decide +kernel
theorem vx_F_rlo_0_14 : vm_rng (fun s => vm_chk bt_159 [] (vk_F_rlo_0 s) 18 (vc_F_rlo_0 s) 0 1 && (vm_ents 159 18 (vc_F_rlo_0 s) (ve_F_rlo_0 s) && vm_kok (vk_F_rlo_0 s))) 85 6 = true := by decide +kernel
theorem vx_F_rlo_0_15 : vm_rng (fun s => vm_chk bt_159 [] (vk_F_rlo_0 s) 18 (vc_F_rlo_0 s) 0 1 && (vm_ents 159 18 (vc_F_rlo_0 s) (ve_F_rlo_0 s) && vm_kok (vk_F_rlo_0 s))) 91 6 = true := by decide +kernel
theorem vx_F_rlo_0_16 : vm_rng (fun s => vm_chk bt_159 [] (vk_F_rlo_0 s) 18 (vc_F_rlo_0 s) 0 1 && (vm_ents 159 18 (vc_F_rlo_0 s) (ve_F_rlo_0 s) && vm_kok (vk_F_rlo_0 s))) 97 6 = true := by decide +kernel
theorem vx_F_rlo_0_17 : vm_rng (fun s => vm_chk bt_159 [] (vk_F_rlo_0 s) 18 (vc_F_rlo_0 s) 0 1 && (vm_ents 159 18 (vc_F_rlo_0 s) (ve_F_rlo_0 s) && vm_kok (vk_F_rlo_0 s))) 103 6 = true := by decide +kernel
theorem vx_F_rlo_0_18 : vm_rng (fun s => vm_chk bt_159 [] (vk_F_rlo_0 s) 18 (vc_F_rlo_0 s) 0 1 && (vm_ents 159 18 (vc_F_rlo_0 s) (ve_F_rlo_0 s) && vm_kok (vk_F_rlo_0 s))) 109 6 = true := by decide +kernel
theorem vx_F_rlo_0_19 : vm_rng (fun s => vm_chk bt_159 [] (vk_F_rlo_0 s) 18 (vc_F_rlo_0 s) 0 1 && (vm_ents 159 18 (vc_F_rlo_0 s) (ve_F_rlo_0 s) && vm_kok (vk_F_rlo_0 s))) 115 6 = true := by decide +kernel
theorem vx_F_rlo_0_20 : vm_rng (fun s => vm_chk bt_159 [] (vk_F_rlo_0 s) 18 (vc_F_rlo_0 s) 0 1 && (vm_ents 159 18 (vc_F_rlo_0 s) (ve_F_rlo_0 s) && vm_kok (vk_F_rlo_0 s))) 121 6 = true := by decide +kernel
theorem vx_F_rlo_0_21 : vm_rng (fun s => vm_chk bt_159 [] (vk_F_rlo_0 s) 18 (vc_F_rlo_0 s) 0 1 && (vm_ents 159 18 (vc_F_rlo_0 s) (ve_F_rlo_0 s) && vm_kok (vk_F_rlo_0 s))) 127 6 = true := by decide +kernel
theorem vx_F_rlo_0_22 : vm_rng (fun s => vm_chk bt_159 [] (vk_F_rlo_0 s) 18 (vc_F_rlo_0 s) 0 1 && (vm_ents 159 18 (vc_F_rlo_0 s) (ve_F_rlo_0 s) && vm_kok (vk_F_rlo_0 s))) 133 6 = true := by decide +kernel
theorem vx_F_rlo_0_23 : vm_rng (fun s => vm_chk bt_159 [] (vk_F_rlo_0 s) 18 (vc_F_rlo_0 s) 0 1 && (vm_ents 159 18 (vc_F_rlo_0 s) (ve_F_rlo_0 s) && vm_kok (vk_F_rlo_0 s))) 139 6 = true := by decide +kernel
theorem vx_F_rlo_0_24 : vm_rng (fun s => vm_chk bt_159 [] (vk_F_rlo_0 s) 18 (vc_F_rlo_0 s) 0 1 && (vm_ents 159 18 (vc_F_rlo_0 s) (ve_F_rlo_0 s) && vm_kok (vk_F_rlo_0 s))) 145 6 = true := by decide +kernel
theorem vx_F_rlo_0_25 : vm_rng (fun s => vm_chk bt_159 [] (vk_F_rlo_0 s) 18 (vc_F_rlo_0 s) 0 1 && (vm_ents 159 18 (vc_F_rlo_0 s) (ve_F_rlo_0 s) && vm_kok (vk_F_rlo_0 s))) 151 6 = true := by decide +kernel
theorem vx_F_rlo_0_26 : vm_rng (fun s => vm_chk bt_159 [] (vk_F_rlo_0 s) 18 (vc_F_rlo_0 s) 0 1 && (vm_ents 159 18 (vc_F_rlo_0 s) (ve_F_rlo_0 s) && vm_kok (vk_F_rlo_0 s))) 157 2 = true := by decide +kernel
set_option maxRecDepth 20000 in
theorem vz_F_rlo_0 (s : Nat) (h1 : 1 ≤ s) (h2 : s < 159) : (vm_chk bt_159 [] (vk_F_rlo_0 s) 18 (vc_F_rlo_0 s) 0 1 && (vm_ents 159 18 (vc_F_rlo_0 s) (ve_F_rlo_0 s) && vm_kok (vk_F_rlo_0 s))) = true := by
  by_cases g0 : s < 7
  · exact vm_rng_ok vx_F_rlo_0_0 s (by omega) (by omega)
  by_cases g1 : s < 13
  · exact vm_rng_ok vx_F_rlo_0_1 s (by omega) (by omega)
  by_cases g2 : s < 19
  · exact vm_rng_ok vx_F_rlo_0_2 s (by omega) (by omega)
  by_cases g3 : s < 25
  · exact vm_rng_ok vx_F_rlo_0_3 s (by omega) (by omega)
  by_cases g4 : s < 31
  · exact vm_rng_ok vx_F_rlo_0_4 s (by omega) (by omega)
  by_cases g5 : s < 37
  · exact vm_rng_ok vx_F_rlo_0_5 s (by omega) (by omega)
  by_cases g6 : s < 43
  · exact vm_rng_ok vx_F_rlo_0_6 s (by omega) (by omega)
  by_cases g7 : s < 49
  · exact vm_rng_ok vx_F_rlo_0_7 s (by omega) (by omega)
  by_cases g8 : s < 55
  · exact vm_rng_ok vx_F_rlo_0_8 s (by omega) (by omega)
  by_cases g9 : s < 61
  · exact vm_rng_ok vx_F_rlo_0_9 s (by omega) (by omega)
  by_cases g10 : s < 67
  · exact vm_rng_ok vx_F_rlo_0_10 s (by omega) (by omega)
  by_cases g11 : s < 73
  · exact vm_rng_ok vx_F_rlo_0_11 s (by omega) (by omega)
  by_cases g12 : s < 79
  · exact vm_rng_ok vx_F_rlo_0_12 s (by omega) (by omega)
  by_cases g13 : s < 85
  · exact vm_rng_ok vx_F_rlo_0_13 s (by omega) (by omega)
  by_cases g14 : s < 91
  · exact vm_rng_ok vx_F_rlo_0_14 s (by omega) (by omega)
  by_cases g15 : s < 97
  · exact vm_rng_ok vx_F_rlo_0_15 s (by omega) (by omega)
  by_cases g16 : s < 103
  · exact vm_rng_ok vx_F_rlo_0_16 s (by omega) (by omega)
  by_cases g17 : s < 109
  · exact vm_rng_ok vx_F_rlo_0_17 s (by omega) (by omega)
  by_cases g18 : s < 115
  · exact vm_rng_ok vx_F_rlo_0_18 s (by omega) (by omega)
  by_cases g19 : s < 121
  · exact vm_rng_ok vx_F_rlo_0_19 s (by omega) (by omega)
  by_cases g20 : s < 127
  · exact vm_rng_ok vx_F_rlo_0_20 s (by omega) (by omega)
  by_cases g21 : s < 133
  · exact vm_rng_ok vx_F_rlo_0_21 s (by omega) (by omega)
  by_cases g22 : s < 139
  · exact vm_rng_ok vx_F_rlo_0_22 s (by omega) (by omega)
  by_cases g23 : s < 145
  · exact vm_rng_ok vx_F_rlo_0_23 s (by omega) (by omega)
  by_cases g24 : s < 151
  · exact vm_rng_ok vx_F_rlo_0_24 s (by omega) (by omega)
  by_cases g25 : s < 157
  · exact vm_rng_ok vx_F_rlo_0_25 s (by omega) (by omega)
  exact vm_rng_ok vx_F_rlo_0_26 s (by omega) (by omega)
theorem v_F_rlo_0 (s : Nat) (h1 : 1 ≤ s) (h2 : s < 159) : vm_at 5 (q_F_rlo_0 s) := by
  have h := vz_F_rlo_0 s h1 h2
  rw [Bool.and_eq_true, Bool.and_eq_true] at h
  exact vm_ok (inl := []) (es := ve_F_rlo_0 s) bq_159 (by decide) (vm_wts (L := 4) (vm_kc (vm_up v_918 rfl) (vm_kc (vm_up (v_F_rn_2_5 (s + 1) (by omega) (by omega)) rfl) (vm_kc (vm_up (v_F_rn_2_5 (s + 0) (by omega) (by omega)) rfl) vm_kn))) h.2.2) h.2.1 (fun i => vm_hc h.1 rfl (fun h => absurd h (Nat.not_lt_zero _))) _ List.mem_cons_self
noncomputable def vp_942 : List vm_R := [(none, va_h342), (none, va_h168)]
noncomputable def ve_942 : List vm_E := [([.inr (.inr (some 70)), .inl (.ofNat 1, .ofNat 1)], va_h340, 0, [0])]
noncomputable def q_942 : vm_Q := (159, [.inr (.inr (some 70)), .inl (.ofNat 1, .ofNat 1)], va_h340, vp_942)
noncomputable def vk_942 : List vm_U := [(q_919, false, []), (q_934, false, [(7, 62, 6), (7, 62, 7)])]
noncomputable def vf_942 : List ((Nat → am_I) → vm_A) := [fun v => (0, [(0, .inr (.inr (some 70))), (1, .inl (.ofNat 1, .ofNat 1))], [], (80, [(62, va_c225)])), fun v => (69, [(0, .inr (.inr (some 70))), (1, .inl am_top), (2, .inl (v 0))], [], (80, [(62, .inr (.inr (.inr (7, [.inr (.inr (some 71)), .inr (.inr (some 72)), .inl (.ofNat 2, .ofNat 5), .inl (.ofNat 2, .ofNat 5), .inl (.ofNat 0, .ofNat 5), .inr (.inr (some 73)), .inl (v 1), .inl (v 2), .inl (.ofNat 0, .ofNat 5), .inl am_top, .inl am_top, .inl am_top, .inr (.inr (some 74)), .inl (.ofNat 0, .ofNat 160), .inl (v 3), .inl (.ofNat 0, .ofNat 160), .inl (v 4), .inl am_top, .inl (v 5), .inl am_top, .inr (.inr (some 75)), .inr (.inr (some 76)), .inr (.inr (some 77)), .inr (.inr (some 78)), .inr (.inr (some 79)), .inr (.inr (some 80)), .inr (.inr (some 81)), .inl (.negSucc 0, .ofNat 6), .inr (.inr (some 82)), .inr (.inr (some 83)), .inr (.inr (some 84)), .inr (.inr (some 85)), .inr (.inr (some 86)), .inl am_top, .inr (.inr (some 87))]))))]))]
noncomputable def vd_942_0_0 : List (List Nat) := [[65536, 767986495866804589690881, 2963125643021576699905, 2963125644121088327681, 2963125645220599955457, 45213709202620417, 782190705718500522000385, 782190705718504816967681], [782190705718509111934977, 3055432444212942995457]]
noncomputable def vd_942_0 : List (List (List Nat)) := [vd_942_0_0]
noncomputable def vd_942 : List (List (List (List Nat))) := [vd_942_0]
noncomputable def vt_942 : List (List am_I) := [[(.ofNat 2, .ofNat 5), (.ofNat 0, .ofNat 3), (.ofNat 0, .ofNat 5), (.ofNat 0, .ofNat 160), (.ofNat 1, .ofNat 6)]]
noncomputable def vc_942 : vm_C := (fun _ => vp_942, fun pc => [], [69], 10, vm_inst 8 161 vt_942 vf_942 vd_942)
theorem vx_942_0 : vm_chk bt_159 [] vk_942 18 vc_942 0 10 = true := by decide +kernel
theorem vy_942 : vm_ents 159 18 vc_942 ve_942 = true := by decide +kernel
theorem vw_942 : ∀ q ∈ vk_942, vm_wt 4 q := vm_wts (vm_kc (vm_up v_919 rfl) (vm_kc (vm_up v_934 rfl) vm_kn)) (by decide +kernel)
theorem v_942 : vm_at 5 q_942 := vm_ok (inl := []) (es := ve_942) bq_159 (by decide) vw_942 vy_942 (fun i => vm_hc vx_942_0 rfl (fun h => absurd h (Nat.not_lt_zero _))) _ List.mem_cons_self
noncomputable def vp_958 : List vm_R := [(none, va_h346), (none, va_h347), (none, va_h168)]
noncomputable def ve_958 : List vm_E := [([.inr (.inr (some 70)), .inl (.ofNat 1, .ofNat 1)], va_h353, 0, [0])]
noncomputable def q_958 : vm_Q := (159, [.inr (.inr (some 70)), .inl (.ofNat 1, .ofNat 1)], va_h353, vp_958)
noncomputable def vk_958 : List vm_U := [(q_919, false, []), (q_934, false, [(7, 62, 6), (7, 62, 7)]), ((q_F_rn_0_9 159), false, [(7, 62, 6), (7, 62, 7)])]
noncomputable def vf_958 : List ((Nat → am_I) → vm_A) := [fun v => (0, [(0, .inr (.inr (some 70))), (1, .inl (.ofNat 1, .ofNat 1))], [], (80, [(62, va_c240)])), fun v => (69, [(0, .inr (.inr (some 70))), (1, .inl am_top), (2, .inl (v 0))], [], (80, [(62, .inr (.inr (.inr (7, [.inr (.inr (some 71)), .inr (.inr (some 72)), .inl (.ofNat 2, .ofNat 5), .inl (.ofNat 2, .ofNat 5), .inl (.ofNat 0, .ofNat 5), .inr (.inr (some 73)), .inl (v 1), .inl (v 2), .inl (.ofNat 0, .ofNat 5), .inl am_top, .inl am_top, .inl am_top, .inr (.inr (some 74)), .inl (.ofNat 0, .ofNat 160), .inl (v 3), .inl (.ofNat 0, .ofNat 160), .inl (v 4), .inl am_top, .inl (v 5), .inl am_top, .inr (.inr (some 75)), .inr (.inr (some 76)), .inr (.inr (some 77)), .inr (.inr (some 78)), .inr (.inr (some 79)), .inr (.inr (some 80)), .inr (.inr (some 81)), .inl (.negSucc 0, .ofNat 6), .inr (.inr (some 82)), .inr (.inr (some 83)), .inr (.inr (some 84)), .inr (.inr (some 85)), .inr (.inr (some 86)), .inl am_top, .inr (.inr (some 87))]))))]))]
noncomputable def vd_958_0_0 : List (List Nat) := [[65536, 197822913494490070038806529, 768004897586980948475905, 768004897868447335251969, 768004898149913722028033, 45776659156041729, 11862659131422801921, 777431228835859661979649], [777431228834751526862849, 777431228833643391746049, 2963125644121088327681, 2963125645220599955457, 45213709202620417, 791654030108650574512129, 791654030108654869479425, 791654030108659164446721], [3092398555111966638081]]
noncomputable def vd_958_0 : List (List (List Nat)) := [vd_958_0_0]
noncomputable def vd_958 : List (List (List (List Nat))) := [vd_958_0]
noncomputable def vt_958 : List (List am_I) := [[(.ofNat 2, .ofNat 5), (.ofNat 159, .ofNat 160), (.ofNat 0, .ofNat 3), (.ofNat 1, .ofNat 3), (.ofNat 0, .ofNat 5), (.ofNat 0, .ofNat 160), (.ofNat 1, .ofNat 6)]]
noncomputable def vc_958 : vm_C := (fun _ => vp_958, fun pc => [], [69], 17, vm_inst 8 161 vt_958 vf_958 vd_958)
theorem vx_958_0 : vm_chk bt_159 [] vk_958 18 vc_958 0 11 = true := by decide +kernel
theorem vx_958_1 : vm_chk bt_159 [] vk_958 18 vc_958 11 6 = true := by decide +kernel
theorem vy_958 : vm_ents 159 18 vc_958 ve_958 = true := by decide +kernel
theorem vw_958 : ∀ q ∈ vk_958, vm_wt 4 q := vm_wts (vm_kc (vm_up v_919 rfl) (vm_kc (vm_up v_934 rfl) (vm_kc (vm_up (v_F_rn_0_9 159 (by decide) (by decide)) rfl) vm_kn))) (by decide +kernel)
theorem v_958 : vm_at 5 q_958 := vm_ok (inl := []) (es := ve_958) bq_159 (by decide) vw_958 vy_958 (fun i => vm_hc vx_958_1 rfl (vm_hc vx_958_0 rfl (fun h => absurd h (Nat.not_lt_zero _)))) _ List.mem_cons_self
noncomputable def vp_974 : List vm_R := [(none, va_h349), (none, va_h350), (none, va_h168)]
noncomputable def ve_974 : List vm_E := [([.inr (.inr (some 70)), .inl (.ofNat 1, .ofNat 1)], va_h354, 0, [0])]
noncomputable def q_974 : vm_Q := (159, [.inr (.inr (some 70)), .inl (.ofNat 1, .ofNat 1)], va_h354, vp_974)
noncomputable def vk_974 : List vm_U := [(q_919, false, []), (q_934, false, [(7, 62, 6), (7, 62, 7)]), ((q_F_rn_0_9 159), false, [(7, 62, 6), (7, 62, 7)]), ((q_F_rn_0_9 158), false, [(7, 62, 6), (7, 62, 7)])]
noncomputable def vf_974 : List ((Nat → am_I) → vm_A) := [fun v => (0, [(0, .inr (.inr (some 70))), (1, .inl (.ofNat 1, .ofNat 1))], [], (80, [(62, va_c241)])), fun v => (69, [(0, .inr (.inr (some 70))), (1, .inl am_top), (2, .inl (v 0))], [], (80, [(62, .inr (.inr (.inr (7, [.inr (.inr (some 71)), .inr (.inr (some 72)), .inl (.ofNat 2, .ofNat 5), .inl (.ofNat 2, .ofNat 5), .inl (.ofNat 0, .ofNat 5), .inr (.inr (some 73)), .inl (v 1), .inl (v 2), .inl (.ofNat 0, .ofNat 5), .inl am_top, .inl am_top, .inl am_top, .inr (.inr (some 74)), .inl (.ofNat 0, .ofNat 160), .inl (v 3), .inl (.ofNat 0, .ofNat 160), .inl (v 4), .inl am_top, .inl (v 5), .inl am_top, .inr (.inr (some 75)), .inr (.inr (some 76)), .inr (.inr (some 77)), .inr (.inr (some 78)), .inr (.inr (some 79)), .inr (.inr (some 80)), .inr (.inr (some 81)), .inl (.negSucc 0, .ofNat 6), .inr (.inr (some 82)), .inr (.inr (some 83)), .inr (.inr (some 84)), .inr (.inr (some 85)), .inr (.inr (some 86)), .inl am_top, .inr (.inr (some 87))]))))]))]
noncomputable def vd_974_0_0 : List (List Nat) := [[65536, 197822913494495567596945409, 768004897592478506614785, 768004897873944893390849, 768004898155411280166913, 45776659156041729, 11935842625367572481, 200250209867531683109208065], [200250209867248009075687425, 200250209866964335042166785, 777449630831987602423809, 777449631113453989199873, 46339609109463041, 11934716725460729857, 782153595318720683704321, 782153595317612548587521], [2963125645220599955457, 45213709202620417, 796376468931688745992193, 796376468931693040959489, 796376468931697335926785, 3110845581764459495425]]
noncomputable def vd_974_0 : List (List (List Nat)) := [vd_974_0_0]
noncomputable def vd_974 : List (List (List (List Nat))) := [vd_974_0]
noncomputable def vt_974 : List (List am_I) := [[(.ofNat 2, .ofNat 5), (.ofNat 158, .ofNat 160), (.ofNat 0, .ofNat 3), (.ofNat 159, .ofNat 160), (.ofNat 1, .ofNat 3), (.ofNat 0, .ofNat 5), (.ofNat 0, .ofNat 160), (.ofNat 1, .ofNat 6)]]
noncomputable def vc_974 : vm_C := (fun _ => vp_974, fun pc => [], [69], 22, vm_inst 8 161 vt_974 vf_974 vd_974)
theorem vx_974_0 : vm_chk bt_159 [] vk_974 18 vc_974 0 11 = true := by decide +kernel
theorem vx_974_1 : vm_chk bt_159 [] vk_974 18 vc_974 11 11 = true := by decide +kernel
theorem vy_974 : vm_ents 159 18 vc_974 ve_974 = true := by decide +kernel
theorem vw_974 : ∀ q ∈ vk_974, vm_wt 4 q := vm_wts (vm_kc (vm_up v_919 rfl) (vm_kc (vm_up v_934 rfl) (vm_kc (vm_up (v_F_rn_0_9 159 (by decide) (by decide)) rfl) (vm_kc (vm_up (v_F_rn_0_9 158 (by decide) (by decide)) rfl) vm_kn)))) (by decide +kernel)
theorem v_974 : vm_at 5 q_974 := vm_ok (inl := []) (es := ve_974) bq_159 (by decide) vw_974 vy_974 (fun i => vm_hc vx_974_1 rfl (vm_hc vx_974_0 rfl (fun h => absurd h (Nat.not_lt_zero _)))) _ List.mem_cons_self
noncomputable def va_c242 : am_C := .inr (.inr (.inr (7, [.inr (.inr (some 71)), .inr (.inr (some 72)), .inl (.ofNat 2, .ofNat 5), .inl (.ofNat 2, .ofNat 5), .inl (.ofNat 0, .ofNat 5), .inr (.inr (some 73)), .inl (.ofNat 2, .ofNat 5), .inl (.ofNat 2, .ofNat 5), .inl (.ofNat 0, .ofNat 5), .inl am_top, .inl am_top, .inl am_top, .inr (.inr (some 74)), .inl (.ofNat 0, .ofNat 160), .inl (.ofNat 157, .ofNat 160), .inl (.ofNat 0, .ofNat 160), .inl (.ofNat 0, .ofNat 0), .inl am_top, .inl (.ofNat 0, .ofNat 0), .inl am_top, .inr (.inr (some 75)), .inr (.inr (some 76)), .inr (.inr (some 77)), .inr (.inr (some 78)), .inr (.inr (some 79)), .inr (.inr (some 80)), .inr (.inr (some 81)), .inl (.negSucc 0, .ofNat 6), .inr (.inr (some 82)), .inr (.inr (some 83)), .inr (.inr (some 84)), .inr (.inr (some 85)), .inr (.inr (some 86)), .inl am_top, .inr (.inr (some 87))])))
noncomputable def va_h355 : am_H := (80, [(62, va_c242)])
noncomputable def va_c243 : am_C := .inr (.inr (.inr (7, [.inr (.inr (some 71)), .inr (.inr (some 72)), .inl (.ofNat 2, .ofNat 5), .inl (.ofNat 2, .ofNat 5), .inl (.ofNat 0, .ofNat 5), .inr (.inr (some 73)), .inl (.ofNat 2, .ofNat 5), .inl (.ofNat 2, .ofNat 5), .inl (.ofNat 0, .ofNat 5), .inl am_top, .inl am_top, .inl am_top, .inr (.inr (some 74)), .inl (.ofNat 0, .ofNat 160), .inl (.ofNat 158, .ofNat 160), .inl (.ofNat 0, .ofNat 160), .inl (.ofNat 1, .ofNat 3), .inl am_top, .inl (.ofNat 0, .ofNat 0), .inl am_top, .inr (.inr (some 75)), .inr (.inr (some 76)), .inr (.inr (some 77)), .inr (.inr (some 78)), .inr (.inr (some 79)), .inr (.inr (some 80)), .inr (.inr (some 81)), .inl (.negSucc 0, .ofNat 6), .inr (.inr (some 82)), .inr (.inr (some 83)), .inr (.inr (some 84)), .inr (.inr (some 85)), .inr (.inr (some 86)), .inl am_top, .inr (.inr (some 87))])))
noncomputable def va_h356 : am_H := (80, [(62, va_c243)])
noncomputable def va_c244 : am_C := .inr (.inr (.inr (7, [.inr (.inr (some 71)), .inr (.inr (some 72)), .inl (.ofNat 2, .ofNat 5), .inl (.ofNat 2, .ofNat 5), .inl (.ofNat 0, .ofNat 5), .inr (.inr (some 73)), .inl (.ofNat 2, .ofNat 5), .inl (.ofNat 2, .ofNat 5), .inl (.ofNat 0, .ofNat 5), .inl am_top, .inl am_top, .inl am_top, .inr (.inr (some 74)), .inl (.ofNat 0, .ofNat 160), .inl (.ofNat 157, .ofNat 160), .inl (.ofNat 0, .ofNat 160), .inl (.ofNat 0, .ofNat 3), .inl am_top, .inl (.ofNat 0, .ofNat 0), .inl am_top, .inr (.inr (some 75)), .inr (.inr (some 76)), .inr (.inr (some 77)), .inr (.inr (some 78)), .inr (.inr (some 79)), .inr (.inr (some 80)), .inr (.inr (some 81)), .inl (.negSucc 0, .ofNat 6), .inr (.inr (some 82)), .inr (.inr (some 83)), .inr (.inr (some 84)), .inr (.inr (some 85)), .inr (.inr (some 86)), .inl am_top, .inr (.inr (some 87))])))
noncomputable def va_h357 : am_H := (80, [(62, va_c244)])
noncomputable def vp_990 : List vm_R := [(none, va_h355), (none, va_h356), (none, va_h168)]
noncomputable def ve_990 : List vm_E := [([.inr (.inr (some 70)), .inl (.ofNat 1, .ofNat 1)], va_h357, 0, [0])]
noncomputable def q_990 : vm_Q := (159, [.inr (.inr (some 70)), .inl (.ofNat 1, .ofNat 1)], va_h357, vp_990)
noncomputable def vk_990 : List vm_U := [(q_919, false, []), (q_934, false, [(7, 62, 6), (7, 62, 7)]), ((q_F_rn_0_9 159), false, [(7, 62, 6), (7, 62, 7)]), ((q_F_rn_0_9 158), false, [(7, 62, 6), (7, 62, 7)]), ((q_F_rn_0_9 157), false, [(7, 62, 6), (7, 62, 7)])]
noncomputable def vf_990 : List ((Nat → am_I) → vm_A) := [fun v => (0, [(0, .inr (.inr (some 70))), (1, .inl (.ofNat 1, .ofNat 1))], [], (80, [(62, va_c244)])), fun v => (69, [(0, .inr (.inr (some 70))), (1, .inl am_top), (2, .inl (v 0))], [], (80, [(62, .inr (.inr (.inr (7, [.inr (.inr (some 71)), .inr (.inr (some 72)), .inl (.ofNat 2, .ofNat 5), .inl (.ofNat 2, .ofNat 5), .inl (.ofNat 0, .ofNat 5), .inr (.inr (some 73)), .inl (v 1), .inl (v 2), .inl (.ofNat 0, .ofNat 5), .inl am_top, .inl am_top, .inl am_top, .inr (.inr (some 74)), .inl (.ofNat 0, .ofNat 160), .inl (v 3), .inl (.ofNat 0, .ofNat 160), .inl (v 4), .inl am_top, .inl (v 5), .inl am_top, .inr (.inr (some 75)), .inr (.inr (some 76)), .inr (.inr (some 77)), .inr (.inr (some 78)), .inr (.inr (some 79)), .inr (.inr (some 80)), .inr (.inr (some 81)), .inl (.negSucc 0, .ofNat 6), .inr (.inr (some 82)), .inr (.inr (some 83)), .inr (.inr (some 84)), .inr (.inr (some 85)), .inr (.inr (some 86)), .inl am_top, .inr (.inr (some 87))]))))]))]
noncomputable def vd_990_0_0 : List (List Nat) := [[65536, 197822913494498866131828737, 768004897595777041498113, 768004897877243428274177, 768004898158709815050241, 45776659156041729, 11935842625367572481, 200250209867534981644091393], [200250209867251307610570753, 200250209866967633577050113, 777449630835286137307137, 777449631116752524083201, 46339609109463041, 11936405575320993793, 200259654600493015729635329, 200259654600209341696114689], [786894364076994256371713, 46902559062884353, 11934716725460729857, 782153595318712060215297, 45213709202620417, 801098907754726917472257, 801098907754731212439553, 801098907754735507406849], [3129292608416952352769]]
noncomputable def vd_990_0 : List (List (List Nat)) := [vd_990_0_0]
noncomputable def vd_990 : List (List (List (List Nat))) := [vd_990_0]
noncomputable def vt_990 : List (List am_I) := [[(.ofNat 2, .ofNat 5), (.ofNat 157, .ofNat 160), (.ofNat 0, .ofNat 3), (.ofNat 158, .ofNat 160), (.ofNat 1, .ofNat 3), (.ofNat 159, .ofNat 160), (.ofNat 0, .ofNat 5), (.ofNat 0, .ofNat 160)], [(.ofNat 1, .ofNat 6)]]
noncomputable def vc_990 : vm_C := (fun _ => vp_990, fun pc => [], [69], 25, vm_inst 8 161 vt_990 vf_990 vd_990)
theorem vx_990_0 : vm_chk bt_159 [] vk_990 18 vc_990 0 11 = true := by decide +kernel
theorem vx_990_1 : vm_chk bt_159 [] vk_990 18 vc_990 11 13 = true := by decide +kernel
theorem vx_990_2 : vm_chk bt_159 [] vk_990 18 vc_990 24 1 = true := by decide +kernel
theorem vy_990 : vm_ents 159 18 vc_990 ve_990 = true := by decide +kernel
theorem vw_990 : ∀ q ∈ vk_990, vm_wt 4 q := vm_wts (vm_kc (vm_up v_919 rfl) (vm_kc (vm_up v_934 rfl) (vm_kc (vm_up (v_F_rn_0_9 159 (by decide) (by decide)) rfl) (vm_kc (vm_up (v_F_rn_0_9 158 (by decide) (by decide)) rfl) (vm_kc (vm_up (v_F_rn_0_9 157 (by decide) (by decide)) rfl) vm_kn))))) (by decide +kernel)
theorem v_990 : vm_at 5 q_990 := vm_ok (inl := []) (es := ve_990) bq_159 (by decide) vw_990 vy_990 (fun i => vm_hc vx_990_2 rfl (vm_hc vx_990_1 rfl (vm_hc vx_990_0 rfl (fun h => absurd h (Nat.not_lt_zero _))))) _ List.mem_cons_self
noncomputable def va_c245 : am_C := .inr (.inr (.inr (7, [.inr (.inr (some 71)), .inr (.inr (some 72)), .inl (.ofNat 2, .ofNat 5), .inl (.ofNat 2, .ofNat 5), .inl (.ofNat 0, .ofNat 5), .inr (.inr (some 73)), .inl (.ofNat 2, .ofNat 5), .inl (.ofNat 2, .ofNat 5), .inl (.ofNat 0, .ofNat 5), .inl am_top, .inl am_top, .inl am_top, .inr (.inr (some 74)), .inl (.ofNat 0, .ofNat 160), .inl (.ofNat 156, .ofNat 160), .inl (.ofNat 0, .ofNat 160), .inl (.ofNat 0, .ofNat 0), .inl am_top, .inl (.ofNat 0, .ofNat 0), .inl am_top, .inr (.inr (some 75)), .inr (.inr (some 76)), .inr (.inr (some 77)), .inr (.inr (some 78)), .inr (.inr (some 79)), .inr (.inr (some 80)), .inr (.inr (some 81)), .inl (.negSucc 0, .ofNat 6), .inr (.inr (some 82)), .inr (.inr (some 83)), .inr (.inr (some 84)), .inr (.inr (some 85)), .inr (.inr (some 86)), .inl am_top, .inr (.inr (some 87))])))
noncomputable def va_h358 : am_H := (80, [(62, va_c245)])
noncomputable def va_c246 : am_C := .inr (.inr (.inr (7, [.inr (.inr (some 71)), .inr (.inr (some 72)), .inl (.ofNat 2, .ofNat 5), .inl (.ofNat 2, .ofNat 5), .inl (.ofNat 0, .ofNat 5), .inr (.inr (some 73)), .inl (.ofNat 2, .ofNat 5), .inl (.ofNat 2, .ofNat 5), .inl (.ofNat 0, .ofNat 5), .inl am_top, .inl am_top, .inl am_top, .inr (.inr (some 74)), .inl (.ofNat 0, .ofNat 160), .inl (.ofNat 157, .ofNat 160), .inl (.ofNat 0, .ofNat 160), .inl (.ofNat 1, .ofNat 3), .inl am_top, .inl (.ofNat 0, .ofNat 0), .inl am_top, .inr (.inr (some 75)), .inr (.inr (some 76)), .inr (.inr (some 77)), .inr (.inr (some 78)), .inr (.inr (some 79)), .inr (.inr (some 80)), .inr (.inr (some 81)), .inl (.negSucc 0, .ofNat 6), .inr (.inr (some 82)), .inr (.inr (some 83)), .inr (.inr (some 84)), .inr (.inr (some 85)), .inr (.inr (some 86)), .inl am_top, .inr (.inr (some 87))])))
noncomputable def va_h359 : am_H := (80, [(62, va_c246)])
noncomputable def va_c247 : am_C := .inr (.inr (.inr (7, [.inr (.inr (some 71)), .inr (.inr (some 72)), .inl (.ofNat 2, .ofNat 5), .inl (.ofNat 2, .ofNat 5), .inl (.ofNat 0, .ofNat 5), .inr (.inr (some 73)), .inl (.ofNat 2, .ofNat 5), .inl (.ofNat 2, .ofNat 5), .inl (.ofNat 0, .ofNat 5), .inl am_top, .inl am_top, .inl am_top, .inr (.inr (some 74)), .inl (.ofNat 0, .ofNat 160), .inl (.ofNat 156, .ofNat 160), .inl (.ofNat 0, .ofNat 160), .inl (.ofNat 0, .ofNat 3), .inl am_top, .inl (.ofNat 0, .ofNat 0), .inl am_top, .inr (.inr (some 75)), .inr (.inr (some 76)), .inr (.inr (some 77)), .inr (.inr (some 78)), .inr (.inr (some 79)), .inr (.inr (some 80)), .inr (.inr (some 81)), .inl (.negSucc 0, .ofNat 6), .inr (.inr (some 82)), .inr (.inr (some 83)), .inr (.inr (some 84)), .inr (.inr (some 85)), .inr (.inr (some 86)), .inl am_top, .inr (.inr (some 87))])))
noncomputable def va_h360 : am_H := (80, [(62, va_c247)])
noncomputable def vp_1006 : List vm_R := [(none, va_h358), (none, va_h359), (none, va_h168)]
noncomputable def ve_1006 : List vm_E := [([.inr (.inr (some 70)), .inl (.ofNat 1, .ofNat 1)], va_h360, 0, [0])]
noncomputable def q_1006 : vm_Q := (159, [.inr (.inr (some 70)), .inl (.ofNat 1, .ofNat 1)], va_h360, vp_1006)
noncomputable def vk_1006 : List vm_U := [(q_919, false, []), ((q_F_rn_0_9 159), false, [(7, 62, 6), (7, 62, 7)]), ((q_F_rn_0_9 158), false, [(7, 62, 6), (7, 62, 7)]), ((q_F_rn_0_9 157), false, [(7, 62, 6), (7, 62, 7)]), ((q_F_rn_0_9 156), false, [(7, 62, 6), (7, 62, 7)])]
noncomputable def vf_1006 : List ((Nat → am_I) → vm_A) := [fun v => (0, [(0, .inr (.inr (some 70))), (1, .inl (.ofNat 1, .ofNat 1))], [], (80, [(62, va_c247)])), fun v => (69, [(0, .inr (.inr (some 70))), (1, .inl am_top), (2, .inl (v 0))], [], (80, [(62, .inr (.inr (.inr (7, [.inr (.inr (some 71)), .inr (.inr (some 72)), .inl (.ofNat 2, .ofNat 5), .inl (.ofNat 2, .ofNat 5), .inl (.ofNat 0, .ofNat 5), .inr (.inr (some 73)), .inl (v 1), .inl (v 2), .inl (.ofNat 0, .ofNat 5), .inl am_top, .inl am_top, .inl am_top, .inr (.inr (some 74)), .inl (.ofNat 0, .ofNat 160), .inl (v 3), .inl (.ofNat 0, .ofNat 160), .inl (v 4), .inl am_top, .inl (v 5), .inl am_top, .inr (.inr (some 75)), .inr (.inr (some 76)), .inr (.inr (some 77)), .inr (.inr (some 78)), .inr (.inr (some 79)), .inr (.inr (some 80)), .inr (.inr (some 81)), .inl (.negSucc 0, .ofNat 6), .inr (.inr (some 82)), .inr (.inr (some 83)), .inr (.inr (some 84)), .inr (.inr (some 85)), .inr (.inr (some 86)), .inl am_top, .inr (.inr (some 87))]))))]))]
noncomputable def vd_1006_0_0 : List (List Nat) := [[65536, 197822913494499965643456513, 768004897596876553125889, 768004897878342939901953, 768004898159809326678017, 45776659156041729, 11935842625367572481, 200250209867536081155719169], [200250209867252407122198529, 200250209866968733088677889, 777449630836385648934913, 777449631117852035710977, 46339609109463041, 11936405575320993793, 200259654600494115241263105, 200259654600210441207742465], [786894364078093767999489, 46902559062884353, 11936687050297704449, 200264376966971478704848897, 47184034039595009, 11934716725460729857, 805821346577765088952321, 805821346577769383919617], [805821346577773678886913, 3147739635069445210113]]
noncomputable def vd_1006_0 : List (List (List Nat)) := [vd_1006_0_0]
noncomputable def vd_1006 : List (List (List (List Nat))) := [vd_1006_0]
noncomputable def vt_1006 : List (List am_I) := [[(.ofNat 2, .ofNat 5), (.ofNat 156, .ofNat 160), (.ofNat 0, .ofNat 3), (.ofNat 157, .ofNat 160), (.ofNat 1, .ofNat 3), (.ofNat 158, .ofNat 160), (.ofNat 159, .ofNat 160), (.ofNat 0, .ofNat 5)], [(.ofNat 0, .ofNat 160), (.ofNat 1, .ofNat 6)]]
noncomputable def vc_1006 : vm_C := (fun _ => vp_1006, fun pc => [], [69], 26, vm_inst 8 161 vt_1006 vf_1006 vd_1006)
theorem vx_1006_0 : vm_chk bt_159 [] vk_1006 18 vc_1006 0 11 = true := by decide +kernel
theorem vx_1006_1 : vm_chk bt_159 [] vk_1006 18 vc_1006 11 13 = true := by decide +kernel
theorem vx_1006_2 : vm_chk bt_159 [] vk_1006 18 vc_1006 24 2 = true := by decide +kernel
theorem vy_1006 : vm_ents 159 18 vc_1006 ve_1006 = true := by decide +kernel
theorem vw_1006 : ∀ q ∈ vk_1006, vm_wt 4 q := vm_wts (vm_kc (vm_up v_919 rfl) (vm_kc (vm_up (v_F_rn_0_9 159 (by decide) (by decide)) rfl) (vm_kc (vm_up (v_F_rn_0_9 158 (by decide) (by decide)) rfl) (vm_kc (vm_up (v_F_rn_0_9 157 (by decide) (by decide)) rfl) (vm_kc (vm_up (v_F_rn_0_9 156 (by decide) (by decide)) rfl) vm_kn))))) (by decide +kernel)
theorem v_1006 : vm_at 5 q_1006 := vm_ok (inl := []) (es := ve_1006) bq_159 (by decide) vw_1006 vy_1006 (fun i => vm_hc vx_1006_2 rfl (vm_hc vx_1006_1 rfl (vm_hc vx_1006_0 rfl (fun h => absurd h (Nat.not_lt_zero _))))) _ List.mem_cons_self
noncomputable def vp_3502 : List vm_R := [(none, va_h343), (none, va_h344), (none, va_h168)]
noncomputable def ve_3502 : List vm_E := [([.inr (.inr (some 70)), .inl (.ofNat 1, .ofNat 1)], va_h167, 0, [0])]
noncomputable def q_3502 : vm_Q := (159, [.inr (.inr (some 70)), .inl (.ofNat 1, .ofNat 1)], va_h167, vp_3502)
noncomputable def vk_3502 : List vm_U := [(q_919, false, []), ((q_F_rn_0_9 3), false, [(7, 62, 6), (7, 62, 7)]), ((q_F_rn_0_9 2), false, [(7, 62, 6), (7, 62, 7)]), ((q_F_rn_0_9 1), false, [(7, 62, 6), (7, 62, 7)]), (q_3494, false, [(7, 62, 6), (7, 62, 7)])]
noncomputable def vf_3502 : List ((Nat → am_I) → vm_A) := [fun v => (0, [(0, .inr (.inr (some 70))), (1, .inl (.ofNat 1, .ofNat 1))], [], (80, [(62, va_c52)])), fun v => (69, [(0, .inr (.inr (some 70))), (1, .inl am_top), (2, .inl (v 0))], [], (80, [(62, .inr (.inr (.inr (7, [.inr (.inr (some 71)), .inr (.inr (some 72)), .inl (.ofNat 2, .ofNat 5), .inl (.ofNat 2, .ofNat 5), .inl (.ofNat 0, .ofNat 5), .inr (.inr (some 73)), .inl (v 1), .inl (v 2), .inl (.ofNat 0, .ofNat 5), .inl am_top, .inl am_top, .inl am_top, .inr (.inr (some 74)), .inl (.ofNat 0, .ofNat 160), .inl (v 3), .inl (.ofNat 0, .ofNat 160), .inl (v 4), .inl am_top, .inl (v 5), .inl am_top, .inr (.inr (some 75)), .inr (.inr (some 76)), .inr (.inr (some 77)), .inr (.inr (some 78)), .inr (.inr (some 79)), .inr (.inr (some 80)), .inr (.inr (some 81)), .inl (.negSucc 0, .ofNat 6), .inr (.inr (some 82)), .inr (.inr (some 83)), .inr (.inr (some 84)), .inr (.inr (some 85)), .inr (.inr (some 86)), .inl am_top, .inr (.inr (some 87))]))))]))]
noncomputable def vd_3502_0_0 : List (List Nat) := [[65536, 27909574808616646207537153, 104280957761641576071169, 104280958043107962847233, 104280958324574349623297, 6215629493239809, 1808218430394859521, 30336871181652761719799809], [30336871181369087686279169, 30336871181085413652758529, 113725691001150671880193, 113725691282617058656257, 6778579446661121, 1808781380348280833, 30346315914610795805343745, 30346315914327121771823105], [123170424242858790944769, 7341529400082433, 1809062855324991489, 30351038281088159268929537, 7623004376793089, 1809344330301702145, 142096863061517967360001, 142096863061522262327297], [142096863061526557294593, 555065871334104891393]]
noncomputable def vd_3502_0 : List (List (List Nat)) := [vd_3502_0_0]
noncomputable def vd_3502 : List (List (List (List Nat))) := [vd_3502_0]
noncomputable def vt_3502 : List (List am_I) := [[(.ofNat 2, .ofNat 5), (.ofNat 0, .ofNat 160), (.ofNat 0, .ofNat 3), (.ofNat 1, .ofNat 160), (.ofNat 1, .ofNat 3), (.ofNat 2, .ofNat 160), (.ofNat 3, .ofNat 160), (.ofNat 4, .ofNat 160)], [(.ofNat 0, .ofNat 5), (.ofNat 1, .ofNat 6)]]
noncomputable def vc_3502 : vm_C := (fun _ => vp_3502, fun pc => [], [69], 26, vm_inst 8 21 vt_3502 vf_3502 vd_3502)
theorem vx_3502_0 : vm_chk bt_159 [] vk_3502 18 vc_3502 0 11 = true := by decide +kernel
theorem vx_3502_1 : vm_chk bt_159 [] vk_3502 18 vc_3502 11 13 = true := by decide +kernel
theorem vx_3502_2 : vm_chk bt_159 [] vk_3502 18 vc_3502 24 2 = true := by decide +kernel
theorem vy_3502 : vm_ents 159 18 vc_3502 ve_3502 = true := by decide +kernel
theorem vw_3502 : ∀ q ∈ vk_3502, vm_wt 4 q := vm_wts (vm_kc (vm_up v_919 rfl) (vm_kc (vm_up (v_F_rn_0_9 3 (by decide) (by decide)) rfl) (vm_kc (vm_up (v_F_rn_0_9 2 (by decide) (by decide)) rfl) (vm_kc (vm_up (v_F_rn_0_9 1 (by decide) (by decide)) rfl) (vm_kc (vm_up v_3494 rfl) vm_kn))))) (by decide +kernel)
theorem v_3502 : vm_at 5 q_3502 := vm_ok (inl := []) (es := ve_3502) bq_159 (by decide) vw_3502 vy_3502 (fun i => vm_hc vx_3502_2 rfl (vm_hc vx_3502_1 rfl (vm_hc vx_3502_0 rfl (fun h => absurd h (Nat.not_lt_zero _))))) _ List.mem_cons_self
noncomputable def vp_F_rlo_1 (s : Nat) : List vm_R := [(none, (80, [(62, .inr (.inr (.inr (7, [.inr (.inr (some 71)), .inr (.inr (some 72)), .inl (.ofNat 2, .ofNat 5), .inl (.ofNat 2, .ofNat 5), .inl (.ofNat 0, .ofNat 5), .inr (.inr (some 73)), .inl (.ofNat 2, .ofNat 5), .inl (.ofNat 2, .ofNat 5), .inl (.ofNat 0, .ofNat 5), .inl am_top, .inl am_top, .inl am_top, .inr (.inr (some 74)), .inl (.ofNat 0, .ofNat 160), .inl (.ofNat (s + 0), .ofNat 160), .inl (.ofNat 0, .ofNat 160), .inl (.ofNat 0, .ofNat 0), .inl am_top, .inl (.ofNat 0, .ofNat 0), .inl am_top, .inr (.inr (some 75)), .inr (.inr (some 76)), .inr (.inr (some 77)), .inr (.inr (some 78)), .inr (.inr (some 79)), .inr (.inr (some 80)), .inr (.inr (some 81)), .inl (.negSucc 0, .ofNat 6), .inr (.inr (some 82)), .inr (.inr (some 83)), .inr (.inr (some 84)), .inr (.inr (some 85)), .inr (.inr (some 86)), .inl am_top, .inr (.inr (some 87))]))))])), (none, (80, [(62, .inr (.inr (.inr (7, [.inr (.inr (some 71)), .inr (.inr (some 72)), .inl (.ofNat 2, .ofNat 5), .inl (.ofNat 2, .ofNat 5), .inl (.ofNat 0, .ofNat 5), .inr (.inr (some 73)), .inl (.ofNat 2, .ofNat 5), .inl (.ofNat 2, .ofNat 5), .inl (.ofNat 0, .ofNat 5), .inl am_top, .inl am_top, .inl am_top, .inr (.inr (some 74)), .inl (.ofNat 0, .ofNat 160), .inl (.ofNat (s + 1), .ofNat 160), .inl (.ofNat 0, .ofNat 160), .inl (.ofNat 1, .ofNat 3), .inl am_top, .inl (.ofNat 0, .ofNat 0), .inl am_top, .inr (.inr (some 75)), .inr (.inr (some 76)), .inr (.inr (some 77)), .inr (.inr (some 78)), .inr (.inr (some 79)), .inr (.inr (some 80)), .inr (.inr (some 81)), .inl (.negSucc 0, .ofNat 6), .inr (.inr (some 82)), .inr (.inr (some 83)), .inr (.inr (some 84)), .inr (.inr (some 85)), .inr (.inr (some 86)), .inl am_top, .inr (.inr (some 87))]))))])), (none, (80, [(62, .inr (.inr (.inr (7, [.inr (.inr (some 71)), .inr (.inr (some 72)), .inl (.ofNat 2, .ofNat 5), .inl (.ofNat 2, .ofNat 5), .inl (.ofNat 0, .ofNat 5), .inr (.inr (some 73)), .inl (.ofNat 0, .ofNat 5), .inl (.ofNat 0, .ofNat 5), .inl (.ofNat 0, .ofNat 5), .inl am_top, .inl am_top, .inl am_top, .inr (.inr (some 74)), .inl (.ofNat 0, .ofNat 160), .inl (.ofNat 0, .ofNat 160), .inl (.ofNat 0, .ofNat 160), .inl (.ofNat 0, .ofNat 3), .inl am_top, .inl (.ofNat 1, .ofNat 6), .inl am_top, .inr (.inr (some 75)), .inr (.inr (some 76)), .inr (.inr (some 77)), .inr (.inr (some 78)), .inr (.inr (some 79)), .inr (.inr (some 80)), .inr (.inr (some 81)), .inl (.negSucc 0, .ofNat 6), .inr (.inr (some 82)), .inr (.inr (some 83)), .inr (.inr (some 84)), .inr (.inr (some 85)), .inr (.inr (some 86)), .inl am_top, .inr (.inr (some 87))]))))]))]
noncomputable def vk_F_rlo_1 (s : Nat) : List vm_U := [(q_919, false, []), ((q_F_rn_0_9 (s + 3)), false, [(7, 62, 6), (7, 62, 7)]), ((q_F_rn_0_9 (s + 2)), false, [(7, 62, 6), (7, 62, 7)]), ((q_F_rn_0_9 (s + 1)), false, [(7, 62, 6), (7, 62, 7)]), ((q_F_rn_0_9 (s + 0)), false, [(7, 62, 6), (7, 62, 7)])]
noncomputable def vf_F_rlo_1 (s : Nat) : List ((Nat → am_I) → vm_A) := [fun v => (0, [(0, .inr (.inr (some 70))), (1, .inl (.ofNat 1, .ofNat 1))], [], (80, [(62, .inr (.inr (.inr (7, [.inr (.inr (some 71)), .inr (.inr (some 72)), .inl (.ofNat 2, .ofNat 5), .inl (.ofNat 2, .ofNat 5), .inl (.ofNat 0, .ofNat 5), .inr (.inr (some 73)), .inl (.ofNat 2, .ofNat 5), .inl (.ofNat 2, .ofNat 5), .inl (.ofNat 0, .ofNat 5), .inl am_top, .inl am_top, .inl am_top, .inr (.inr (some 74)), .inl (.ofNat 0, .ofNat 160), .inl (.ofNat (s + 0), .ofNat 160), .inl (.ofNat 0, .ofNat 160), .inl (.ofNat 0, .ofNat 3), .inl am_top, .inl (.ofNat 0, .ofNat 0), .inl am_top, .inr (.inr (some 75)), .inr (.inr (some 76)), .inr (.inr (some 77)), .inr (.inr (some 78)), .inr (.inr (some 79)), .inr (.inr (some 80)), .inr (.inr (some 81)), .inl (.negSucc 0, .ofNat 6), .inr (.inr (some 82)), .inr (.inr (some 83)), .inr (.inr (some 84)), .inr (.inr (some 85)), .inr (.inr (some 86)), .inl am_top, .inr (.inr (some 87))]))))])), fun v => (69, [(0, .inr (.inr (some 70))), (1, .inl am_top), (2, .inl (v 0))], [], (80, [(62, .inr (.inr (.inr (7, [.inr (.inr (some 71)), .inr (.inr (some 72)), .inl (.ofNat 2, .ofNat 5), .inl (.ofNat 2, .ofNat 5), .inl (.ofNat 0, .ofNat 5), .inr (.inr (some 73)), .inl (v 1), .inl (v 2), .inl (.ofNat 0, .ofNat 5), .inl am_top, .inl am_top, .inl am_top, .inr (.inr (some 74)), .inl (.ofNat 0, .ofNat 160), .inl (v 3), .inl (.ofNat 0, .ofNat 160), .inl (v 4), .inl am_top, .inl (v 5), .inl am_top, .inr (.inr (some 75)), .inr (.inr (some 76)), .inr (.inr (some 77)), .inr (.inr (some 78)), .inr (.inr (some 79)), .inr (.inr (some 80)), .inr (.inr (some 81)), .inl (.negSucc 0, .ofNat 6), .inr (.inr (some 82)), .inr (.inr (some 83)), .inr (.inr (some 84)), .inr (.inr (some 85)), .inr (.inr (some 86)), .inl am_top, .inr (.inr (some 87))]))))]))]
noncomputable def vd_F_rlo_1_0_0 (s : Nat) : List (List Nat) := [[65536, 27909574808616646207537153, 104280957761641576071169, 104280958043107962847233, 104280958324574349623297, 6215629493239809, 1808218430394859521, 30336871181652761719799809], [30336871181369087686279169, 30336871181085413652758529, 113725691001150671880193, 113725691282617058656257, 6778579446661121, 1808781380348280833, 30346315914610795805343745, 30346315914327121771823105], [123170424242858790944769, 7341529400082433, 1809062855324991489, 30351038281088159268929537, 7623004376793089, 1809344330301702145, 146819806005139915997185, 146819806005144210964481], [146819806005148505931777, 573514867207628128257]]
noncomputable def vd_F_rlo_1_0 (s : Nat) : List (List (List Nat)) := [vd_F_rlo_1_0_0 s]
noncomputable def vd_F_rlo_1 (s : Nat) : List (List (List (List Nat))) := [vd_F_rlo_1_0 s]
noncomputable def vt_F_rlo_1 (s : Nat) : List (List am_I) := [[(.ofNat 2, .ofNat 5), (.ofNat (s + 0), .ofNat 160), (.ofNat 0, .ofNat 3), (.ofNat (s + 1), .ofNat 160), (.ofNat 1, .ofNat 3), (.ofNat (s + 2), .ofNat 160), (.ofNat (s + 3), .ofNat 160), (.ofNat (s + 4), .ofNat 160)], [(.ofNat 0, .ofNat 5), (.ofNat 0, .ofNat 160), (.ofNat 1, .ofNat 6)]]
noncomputable def vc_F_rlo_1 (s : Nat) : vm_C := (fun _ => vp_F_rlo_1 s, fun pc => [], [69], 26, vm_inst 8 21 (vt_F_rlo_1 s) (vf_F_rlo_1 s) (vd_F_rlo_1 s))
noncomputable def ve_F_rlo_1 (s : Nat) : List vm_E := [([.inr (.inr (some 70)), .inl (.ofNat 1, .ofNat 1)], (80, [(62, .inr (.inr (.inr (7, [.inr (.inr (some 71)), .inr (.inr (some 72)), .inl (.ofNat 2, .ofNat 5), .inl (.ofNat 2, .ofNat 5), .inl (.ofNat 0, .ofNat 5), .inr (.inr (some 73)), .inl (.ofNat 2, .ofNat 5), .inl (.ofNat 2, .ofNat 5), .inl (.ofNat 0, .ofNat 5), .inl am_top, .inl am_top, .inl am_top, .inr (.inr (some 74)), .inl (.ofNat 0, .ofNat 160), .inl (.ofNat (s + 0), .ofNat 160), .inl (.ofNat 0, .ofNat 160), .inl (.ofNat 0, .ofNat 3), .inl am_top, .inl (.ofNat 0, .ofNat 0), .inl am_top, .inr (.inr (some 75)), .inr (.inr (some 76)), .inr (.inr (some 77)), .inr (.inr (some 78)), .inr (.inr (some 79)), .inr (.inr (some 80)), .inr (.inr (some 81)), .inl (.negSucc 0, .ofNat 6), .inr (.inr (some 82)), .inr (.inr (some 83)), .inr (.inr (some 84)), .inr (.inr (some 85)), .inr (.inr (some 86)), .inl am_top, .inr (.inr (some 87))]))))]), 0, [0])]
noncomputable def q_F_rlo_1 (s : Nat) : vm_Q := (159, [.inr (.inr (some 70)), .inl (.ofNat 1, .ofNat 1)], (80, [(62, .inr (.inr (.inr (7, [.inr (.inr (some 71)), .inr (.inr (some 72)), .inl (.ofNat 2, .ofNat 5), .inl (.ofNat 2, .ofNat 5), .inl (.ofNat 0, .ofNat 5), .inr (.inr (some 73)), .inl (.ofNat 2, .ofNat 5), .inl (.ofNat 2, .ofNat 5), .inl (.ofNat 0, .ofNat 5), .inl am_top, .inl am_top, .inl am_top, .inr (.inr (some 74)), .inl (.ofNat 0, .ofNat 160), .inl (.ofNat (s + 0), .ofNat 160), .inl (.ofNat 0, .ofNat 160), .inl (.ofNat 0, .ofNat 3), .inl am_top, .inl (.ofNat 0, .ofNat 0), .inl am_top, .inr (.inr (some 75)), .inr (.inr (some 76)), .inr (.inr (some 77)), .inr (.inr (some 78)), .inr (.inr (some 79)), .inr (.inr (some 80)), .inr (.inr (some 81)), .inl (.negSucc 0, .ofNat 6), .inr (.inr (some 82)), .inr (.inr (some 83)), .inr (.inr (some 84)), .inr (.inr (some 85)), .inr (.inr (some 86)), .inl am_top, .inr (.inr (some 87))]))))]), vp_F_rlo_1 s)
theorem vx_F_rlo_1_0 : vm_rng (fun s => vm_chk bt_159 [] (vk_F_rlo_1 s) 18 (vc_F_rlo_1 s) 0 26 && (vm_ents 159 18 (vc_F_rlo_1 s) (ve_F_rlo_1 s) && vm_kok (vk_F_rlo_1 s))) 1 1 = true := by decide +kernel
theorem vx_F_rlo_1_1 : vm_rng (fun s => vm_chk bt_159 [] (vk_F_rlo_1 s) 18 (vc_F_rlo_1 s) 0 26 && (vm_ents 159 18 (vc_F_rlo_1 s) (ve_F_rlo_1 s) && vm_kok (vk_F_rlo_1 s))) 2 1 = true := by decide +kernel
theorem vx_F_rlo_1_2 : vm_rng (fun s => vm_chk bt_159 [] (vk_F_rlo_1 s) 18 (vc_F_rlo_1 s) 0 26 && (vm_ents 159 18 (vc_F_rlo_1 s) (ve_F_rlo_1 s) && vm_kok (vk_F_rlo_1 s))) 3 1 = true := by decide +kernel
theorem vx_F_rlo_1_3 : vm_rng (fun s => vm_chk bt_159 [] (vk_F_rlo_1 s) 18 (vc_F_rlo_1 s) 0 26 && (vm_ents 159 18 (vc_F_rlo_1 s) (ve_F_rlo_1 s) && vm_kok (vk_F_rlo_1 s))) 4 1 = true := by decide +kernel
theorem vx_F_rlo_1_4 : vm_rng (fun s => vm_chk bt_159 [] (vk_F_rlo_1 s) 18 (vc_F_rlo_1 s) 0 26 && (vm_ents 159 18 (vc_F_rlo_1 s) (ve_F_rlo_1 s) && vm_kok (vk_F_rlo_1 s))) 5 1 = true := by decide +kernel
theorem vx_F_rlo_1_5 : vm_rng (fun s => vm_chk bt_159 [] (vk_F_rlo_1 s) 18 (vc_F_rlo_1 s) 0 26 && (vm_ents 159 18 (vc_F_rlo_1 s) (ve_F_rlo_1 s) && vm_kok (vk_F_rlo_1 s))) 6 1 = true := by decide +kernel
theorem vx_F_rlo_1_6 : vm_rng (fun s => vm_chk bt_159 [] (vk_F_rlo_1 s) 18 (vc_F_rlo_1 s) 0 26 && (vm_ents 159 18 (vc_F_rlo_1 s) (ve_F_rlo_1 s) && vm_kok (vk_F_rlo_1 s))) 7 1 = true := by decide +kernel
theorem vx_F_rlo_1_7 : vm_rng (fun s => vm_chk bt_159 [] (vk_F_rlo_1 s) 18 (vc_F_rlo_1 s) 0 26 && (vm_ents 159 18 (vc_F_rlo_1 s) (ve_F_rlo_1 s) && vm_kok (vk_F_rlo_1 s))) 8 1 = true := by decide +kernel
theorem vx_F_rlo_1_8 : vm_rng (fun s => vm_chk bt_159 [] (vk_F_rlo_1 s) 18 (vc_F_rlo_1 s) 0 26 && (vm_ents 159 18 (vc_F_rlo_1 s) (ve_F_rlo_1 s) && vm_kok (vk_F_rlo_1 s))) 9 1 = true := by decide +kernel
theorem vx_F_rlo_1_9 : vm_rng (fun s => vm_chk bt_159 [] (vk_F_rlo_1 s) 18 (vc_F_rlo_1 s) 0 26 && (vm_ents 159 18 (vc_F_rlo_1 s) (ve_F_rlo_1 s) && vm_kok (vk_F_rlo_1 s))) 10 1 = true := by decide +kernel
theorem vx_F_rlo_1_10 : vm_rng (fun s => vm_chk bt_159 [] (vk_F_rlo_1 s) 18 (vc_F_rlo_1 s) 0 26 && (vm_ents 159 18 (vc_F_rlo_1 s) (ve_F_rlo_1 s) && vm_kok (vk_F_rlo_1 s))) 11 1 = true := by decide +kernel
theorem vx_F_rlo_1_11 : vm_rng (fun s => vm_chk bt_159 [] (vk_F_rlo_1 s) 18 (vc_F_rlo_1 s) 0 26 && (vm_ents 159 18 (vc_F_rlo_1 s) (ve_F_rlo_1 s) && vm_kok (vk_F_rlo_1 s))) 12 1 = true := by decide +kernel
theorem vx_F_rlo_1_12 : vm_rng (fun s => vm_chk bt_159 [] (vk_F_rlo_1 s) 18 (vc_F_rlo_1 s) 0 26 && (vm_ents 159 18 (vc_F_rlo_1 s) (ve_F_rlo_1 s) && vm_kok (vk_F_rlo_1 s))) 13 1 = true := by decide +kernel
theorem vx_F_rlo_1_13 : vm_rng (fun s => vm_chk bt_159 [] (vk_F_rlo_1 s) 18 (vc_F_rlo_1 s) 0 26 && (vm_ents 159 18 (vc_F_rlo_1 s) (ve_F_rlo_1 s) && vm_kok (vk_F_rlo_1 s))) 14 1 = true := by decide +kernel
theorem vx_F_rlo_1_14 : vm_rng (fun s => vm_chk bt_159 [] (vk_F_rlo_1 s) 18 (vc_F_rlo_1 s) 0 26 && (vm_ents 159 18 (vc_F_rlo_1 s) (ve_F_rlo_1 s) && vm_kok (vk_F_rlo_1 s))) 15 1 = true := by decide +kernel
theorem vx_F_rlo_1_15 : vm_rng (fun s => vm_chk bt_159 [] (vk_F_rlo_1 s) 18 (vc_F_rlo_1 s) 0 26 && (vm_ents 159 18 (vc_F_rlo_1 s) (ve_F_rlo_1 s) && vm_kok (vk_F_rlo_1 s))) 16 1 = true := by decide +kernel
theorem vx_F_rlo_1_16 : vm_rng (fun s => vm_chk bt_159 [] (vk_F_rlo_1 s) 18 (vc_F_rlo_1 s) 0 26 && (vm_ents 159 18 (vc_F_rlo_1 s) (ve_F_rlo_1 s) && vm_kok (vk_F_rlo_1 s))) 17 1 = true := by decide +kernel
theorem vx_F_rlo_1_17 : vm_rng (fun s => vm_chk bt_159 [] (vk_F_rlo_1 s) 18 (vc_F_rlo_1 s) 0 26 && (vm_ents 159 18 (vc_F_rlo_1 s) (ve_F_rlo_1 s) && vm_kok (vk_F_rlo_1 s))) 18 1 = true := by decide +kernel
theorem vx_F_rlo_1_18 : vm_rng (fun s => vm_chk bt_159 [] (vk_F_rlo_1 s) 18 (vc_F_rlo_1 s) 0 26 && (vm_ents 159 18 (vc_F_rlo_1 s) (ve_F_rlo_1 s) && vm_kok (vk_F_rlo_1 s))) 19 1 = true := by decide +kernel
theorem vx_F_rlo_1_19 : vm_rng (fun s => vm_chk bt_159 [] (vk_F_rlo_1 s) 18 (vc_F_rlo_1 s) 0 26 && (vm_ents 159 18 (vc_F_rlo_1 s) (ve_F_rlo_1 s) && vm_kok (vk_F_rlo_1 s))) 20 1 = true := by decide +kernel
theorem vx_F_rlo_1_20 : vm_rng (fun s => vm_chk bt_159 [] (vk_F_rlo_1 s) 18 (vc_F_rlo_1 s) 0 26 && (vm_ents 159 18 (vc_F_rlo_1 s) (ve_F_rlo_1 s) && vm_kok (vk_F_rlo_1 s))) 21 1 = true := by decide +kernel
theorem vx_F_rlo_1_21 : vm_rng (fun s => vm_chk bt_159 [] (vk_F_rlo_1 s) 18 (vc_F_rlo_1 s) 0 26 && (vm_ents 159 18 (vc_F_rlo_1 s) (ve_F_rlo_1 s) && vm_kok (vk_F_rlo_1 s))) 22 1 = true := by decide +kernel
theorem vx_F_rlo_1_22 : vm_rng (fun s => vm_chk bt_159 [] (vk_F_rlo_1 s) 18 (vc_F_rlo_1 s) 0 26 && (vm_ents 159 18 (vc_F_rlo_1 s) (ve_F_rlo_1 s) && vm_kok (vk_F_rlo_1 s))) 23 1 = true := by decide +kernel
theorem vx_F_rlo_1_23 : vm_rng (fun s => vm_chk bt_159 [] (vk_F_rlo_1 s) 18 (vc_F_rlo_1 s) 0 26 && (vm_ents 159 18 (vc_F_rlo_1 s) (ve_F_rlo_1 s) && vm_kok (vk_F_rlo_1 s))) 24 1 = true := by decide +kernel
theorem vx_F_rlo_1_24 : vm_rng (fun s => vm_chk bt_159 [] (vk_F_rlo_1 s) 18 (vc_F_rlo_1 s) 0 26 && (vm_ents 159 18 (vc_F_rlo_1 s) (ve_F_rlo_1 s) && vm_kok (vk_F_rlo_1 s))) 25 1 = true := by decide +kernel
theorem vx_F_rlo_1_25 : vm_rng (fun s => vm_chk bt_159 [] (vk_F_rlo_1 s) 18 (vc_F_rlo_1 s) 0 26 && (vm_ents 159 18 (vc_F_rlo_1 s) (ve_F_rlo_1 s) && vm_kok (vk_F_rlo_1 s))) 26 1 = true := by decide +kernel
theorem vx_F_rlo_1_26 : vm_rng (fun s => vm_chk bt_159 [] (vk_F_rlo_1 s) 18 (vc_F_rlo_1 s) 0 26 && (vm_ents 159 18 (vc_F_rlo_1 s) (ve_F_rlo_1 s) && vm_kok (vk_F_rlo_1 s))) 27 1 = true := by decide +kernel
theorem vx_F_rlo_1_27 : vm_rng (fun s => vm_chk bt_159 [] (vk_F_rlo_1 s) 18 (vc_F_rlo_1 s) 0 26 && (vm_ents 159 18 (vc_F_rlo_1 s) (ve_F_rlo_1 s) && vm_kok (vk_F_rlo_1 s))) 28 1 = true := by decide +kernel
theorem vx_F_rlo_1_28 : vm_rng (fun s => vm_chk bt_159 [] (vk_F_rlo_1 s) 18 (vc_F_rlo_1 s) 0 26 && (vm_ents 159 18 (vc_F_rlo_1 s) (ve_F_rlo_1 s) && vm_kok (vk_F_rlo_1 s))) 29 1 = true := by decide +kernel
theorem vx_F_rlo_1_29 : vm_rng (fun s => vm_chk bt_159 [] (vk_F_rlo_1 s) 18 (vc_F_rlo_1 s) 0 26 && (vm_ents 159 18 (vc_F_rlo_1 s) (ve_F_rlo_1 s) && vm_kok (vk_F_rlo_1 s))) 30 1 = true := by decide +kernel
theorem vx_F_rlo_1_30 : vm_rng (fun s => vm_chk bt_159 [] (vk_F_rlo_1 s) 18 (vc_F_rlo_1 s) 0 26 && (vm_ents 159 18 (vc_F_rlo_1 s) (ve_F_rlo_1 s) && vm_kok (vk_F_rlo_1 s))) 31 1 = true := by decide +kernel
theorem vx_F_rlo_1_31 : vm_rng (fun s => vm_chk bt_159 [] (vk_F_rlo_1 s) 18 (vc_F_rlo_1 s) 0 26 && (vm_ents 159 18 (vc_F_rlo_1 s) (ve_F_rlo_1 s) && vm_kok (vk_F_rlo_1 s))) 32 1 = true := by decide +kernel
theorem vx_F_rlo_1_32 : vm_rng (fun s => vm_chk bt_159 [] (vk_F_rlo_1 s) 18 (vc_F_rlo_1 s) 0 26 && (vm_ents 159 18 (vc_F_rlo_1 s) (ve_F_rlo_1 s) && vm_kok (vk_F_rlo_1 s))) 33 1 = true := by decide +kernel
theorem vx_F_rlo_1_33 : vm_rng (fun s => vm_chk bt_159 [] (vk_F_rlo_1 s) 18 (vc_F_rlo_1 s) 0 26 && (vm_ents 159 18 (vc_F_rlo_1 s) (ve_F_rlo_1 s) && vm_kok (vk_F_rlo_1 s))) 34 1 = true := by decide +kernel
theorem vx_F_rlo_1_34 : vm_rng (fun s => vm_chk bt_159 [] (vk_F_rlo_1 s) 18 (vc_F_rlo_1 s) 0 26 && (vm_ents 159 18 (vc_F_rlo_1 s) (ve_F_rlo_1 s) && vm_kok (vk_F_rlo_1 s))) 35 1 = true := by decide +kernel
theorem vx_F_rlo_1_35 : vm_rng (fun s => vm_chk bt_159 [] (vk_F_rlo_1 s) 18 (vc_F_rlo_1 s) 0 26 && (vm_ents 159 18 (vc_F_rlo_1 s) (ve_F_rlo_1 s) && vm_kok (vk_F_rlo_1 s))) 36 1 = true := by decide +kernel
theorem vx_F_rlo_1_36 : vm_rng (fun s => vm_chk bt_159 [] (vk_F_rlo_1 s) 18 (vc_F_rlo_1 s) 0 26 && (vm_ents 159 18 (vc_F_rlo_1 s) (ve_F_rlo_1 s) && vm_kok (vk_F_rlo_1 s))) 37 1 = true := by decide +kernel
theorem vx_F_rlo_1_37 : vm_rng (fun s => vm_chk bt_159 [] (vk_F_rlo_1 s) 18 (vc_F_rlo_1 s) 0 26 && (vm_ents 159 18 (vc_F_rlo_1 s) (ve_F_rlo_1 s) && vm_kok (vk_F_rlo_1 s))) 38 1 = true := by decide +kernel
theorem vx_F_rlo_1_38 : vm_rng (fun s => vm_chk bt_159 [] (vk_F_rlo_1 s) 18 (vc_F_rlo_1 s) 0 26 && (vm_ents 159 18 (vc_F_rlo_1 s) (ve_F_rlo_1 s) && vm_kok (vk_F_rlo_1 s))) 39 1 = true := by decide +kernel
theorem vx_F_rlo_1_39 : vm_rng (fun s => vm_chk bt_159 [] (vk_F_rlo_1 s) 18 (vc_F_rlo_1 s) 0 26 && (vm_ents 159 18 (vc_F_rlo_1 s) (ve_F_rlo_1 s) && vm_kok (vk_F_rlo_1 s))) 40 1 = true := by decide +kernel
theorem vx_F_rlo_1_40 : vm_rng (fun s => vm_chk bt_159 [] (vk_F_rlo_1 s) 18 (vc_F_rlo_1 s) 0 26 && (vm_ents 159 18 (vc_F_rlo_1 s) (ve_F_rlo_1 s) && vm_kok (vk_F_rlo_1 s))) 41 1 = true := by decide +kernel
theorem vx_F_rlo_1_41 : vm_rng (fun s => vm_chk bt_159 [] (vk_F_rlo_1 s) 18 (vc_F_rlo_1 s) 0 26 && (vm_ents 159 18 (vc_F_rlo_1 s) (ve_F_rlo_1 s) && vm_kok (vk_F_rlo_1 s))) 42 1 = true := by decide +kernel
theorem vx_F_rlo_1_42 : vm_rng (fun s => vm_chk bt_159 [] (vk_F_rlo_1 s) 18 (vc_F_rlo_1 s) 0 26 && (vm_ents 159 18 (vc_F_rlo_1 s) (ve_F_rlo_1 s) && vm_kok (vk_F_rlo_1 s))) 43 1 = true := by decide +kernel
theorem vx_F_rlo_1_43 : vm_rng (fun s => vm_chk bt_159 [] (vk_F_rlo_1 s) 18 (vc_F_rlo_1 s) 0 26 && (vm_ents 159 18 (vc_F_rlo_1 s) (ve_F_rlo_1 s) && vm_kok (vk_F_rlo_1 s))) 44 1 = true := by decide +kernel
theorem vx_F_rlo_1_44 : vm_rng (fun s => vm_chk bt_159 [] (vk_F_rlo_1 s) 18 (vc_F_rlo_1 s) 0 26 && (vm_ents 159 18 (vc_F_rlo_1 s) (ve_F_rlo_1 s) && vm_kok (vk_F_rlo_1 s))) 45 1 = true := by decide +kernel
theorem vx_F_rlo_1_45 : vm_rng (fun s => vm_chk bt_159 [] (vk_F_rlo_1 s) 18 (vc_F_rlo_1 s) 0 26 && (vm_ents 159 18 (vc_F_rlo_1 s) (ve_F_rlo_1 s) && vm_kok (vk_F_rlo_1 s))) 46 1 = true := by decide +kernel
theorem vx_F_rlo_1_46 : vm_rng (fun s => vm_chk bt_159 [] (vk_F_rlo_1 s) 18 (vc_F_rlo_1 s) 0 26 && (vm_ents 159 18 (vc_F_rlo_1 s) (ve_F_rlo_1 s) && vm_kok (vk_F_rlo_1 s))) 47 1 = true := by decide +kernel
theorem vx_F_rlo_1_47 : vm_rng (fun s => vm_chk bt_159 [] (vk_F_rlo_1 s) 18 (vc_F_rlo_1 s) 0 26 && (vm_ents 159 18 (vc_F_rlo_1 s) (ve_F_rlo_1 s) && vm_kok (vk_F_rlo_1 s))) 48 1 = true := by decide +kernel
theorem vx_F_rlo_1_48 : vm_rng (fun s => vm_chk bt_159 [] (vk_F_rlo_1 s) 18 (vc_F_rlo_1 s) 0 26 && (vm_ents 159 18 (vc_F_rlo_1 s) (ve_F_rlo_1 s) && vm_kok (vk_F_rlo_1 s))) 49 1 = true := by decide +kernel
theorem vx_F_rlo_1_49 : vm_rng (fun s => vm_chk bt_159 [] (vk_F_rlo_1 s) 18 (vc_F_rlo_1 s) 0 26 && (vm_ents 159 18 (vc_F_rlo_1 s) (ve_F_rlo_1 s) && vm_kok (vk_F_rlo_1 s))) 50 1 = true := by decide +kernel
theorem vx_F_rlo_1_50 : vm_rng (fun s => vm_chk bt_159 [] (vk_F_rlo_1 s) 18 (vc_F_rlo_1 s) 0 26 && (vm_ents 159 18 (vc_F_rlo_1 s) (ve_F_rlo_1 s) && vm_kok (vk_F_rlo_1 s))) 51 1 = true := by decide +kernel
theorem vx_F_rlo_1_51 : vm_rng (fun s => vm_chk bt_159 [] (vk_F_rlo_1 s) 18 (vc_F_rlo_1 s) 0 26 && (vm_ents 159 18 (vc_F_rlo_1 s) (ve_F_rlo_1 s) && vm_kok (vk_F_rlo_1 s))) 52 1 = true := by decide +kernel
theorem vx_F_rlo_1_52 : vm_rng (fun s => vm_chk bt_159 [] (vk_F_rlo_1 s) 18 (vc_F_rlo_1 s) 0 26 && (vm_ents 159 18 (vc_F_rlo_1 s) (ve_F_rlo_1 s) && vm_kok (vk_F_rlo_1 s))) 53 1 = true := by decide +kernel
theorem vx_F_rlo_1_53 : vm_rng (fun s => vm_chk bt_159 [] (vk_F_rlo_1 s) 18 (vc_F_rlo_1 s) 0 26 && (vm_ents 159 18 (vc_F_rlo_1 s) (ve_F_rlo_1 s) && vm_kok (vk_F_rlo_1 s))) 54 1 = true := by decide +kernel
theorem vx_F_rlo_1_54 : vm_rng (fun s => vm_chk bt_159 [] (vk_F_rlo_1 s) 18 (vc_F_rlo_1 s) 0 26 && (vm_ents 159 18 (vc_F_rlo_1 s) (ve_F_rlo_1 s) && vm_kok (vk_F_rlo_1 s))) 55 1 = true := by decide +kernel
theorem vx_F_rlo_1_55 : vm_rng (fun s => vm_chk bt_159 [] (vk_F_rlo_1 s) 18 (vc_F_rlo_1 s) 0 26 && (vm_ents 159 18 (vc_F_rlo_1 s) (ve_F_rlo_1 s) && vm_kok (vk_F_rlo_1 s))) 56 1 = true := by decide +kernel
theorem vx_F_rlo_1_56 : vm_rng (fun s => vm_chk bt_159 [] (vk_F_rlo_1 s) 18 (vc_F_rlo_1 s) 0 26 && (vm_ents 159 18 (vc_F_rlo_1 s) (ve_F_rlo_1 s) && vm_kok (vk_F_rlo_1 s))) 57 1 = true := by decide +kernel
theorem vx_F_rlo_1_57 : vm_rng (fun s => vm_chk bt_159 [] (vk_F_rlo_1 s) 18 (vc_F_rlo_1 s) 0 26 && (vm_ents 159 18 (vc_F_rlo_1 s) (ve_F_rlo_1 s) && vm_kok (vk_F_rlo_1 s))) 58 1 = true := by decide +kernel
theorem vx_F_rlo_1_58 : vm_rng (fun s => vm_chk bt_159 [] (vk_F_rlo_1 s) 18 (vc_F_rlo_1 s) 0 26 && (vm_ents 159 18 (vc_F_rlo_1 s) (ve_F_rlo_1 s) && vm_kok (vk_F_rlo_1 s))) 59 1 = true := by decide +kernel
theorem vx_F_rlo_1_59 : vm_rng (fun s => vm_chk bt_159 [] (vk_F_rlo_1 s) 18 (vc_F_rlo_1 s) 0 26 && (vm_ents 159 18 (vc_F_rlo_1 s) (ve_F_rlo_1 s) && vm_kok (vk_F_rlo_1 s))) 60 1 = true := by decide +kernel
theorem vx_F_rlo_1_60 : vm_rng (fun s => vm_chk bt_159 [] (vk_F_rlo_1 s) 18 (vc_F_rlo_1 s) 0 26 && (vm_ents 159 18 (vc_F_rlo_1 s) (ve_F_rlo_1 s) && vm_kok (vk_F_rlo_1 s))) 61 1 = true := by decide +kernel
theorem vx_F_rlo_1_61 : vm_rng (fun s => vm_chk bt_159 [] (vk_F_rlo_1 s) 18 (vc_F_rlo_1 s) 0 26 && (vm_ents 159 18 (vc_F_rlo_1 s) (ve_F_rlo_1 s) && vm_kok (vk_F_rlo_1 s))) 62 1 = true := by decide +kernel
theorem vx_F_rlo_1_62 : vm_rng (fun s => vm_chk bt_159 [] (vk_F_rlo_1 s) 18 (vc_F_rlo_1 s) 0 26 && (vm_ents 159 18 (vc_F_rlo_1 s) (ve_F_rlo_1 s) && vm_kok (vk_F_rlo_1 s))) 63 1 = true := by decide +kernel
theorem vx_F_rlo_1_63 : vm_rng (fun s => vm_chk bt_159 [] (vk_F_rlo_1 s) 18 (vc_F_rlo_1 s) 0 26 && (vm_ents 159 18 (vc_F_rlo_1 s) (ve_F_rlo_1 s) && vm_kok (vk_F_rlo_1 s))) 64 1 = true := by decide +kernel
theorem vx_F_rlo_1_64 : vm_rng (fun s => vm_chk bt_159 [] (vk_F_rlo_1 s) 18 (vc_F_rlo_1 s) 0 26 && (vm_ents 159 18 (vc_F_rlo_1 s) (ve_F_rlo_1 s) && vm_kok (vk_F_rlo_1 s))) 65 1 = true := by decide +kernel
theorem vx_F_rlo_1_65 : vm_rng (fun s => vm_chk bt_159 [] (vk_F_rlo_1 s) 18 (vc_F_rlo_1 s) 0 26 && (vm_ents 159 18 (vc_F_rlo_1 s) (ve_F_rlo_1 s) && vm_kok (vk_F_rlo_1 s))) 66 1 = true := by decide +kernel
theorem vx_F_rlo_1_66 : vm_rng (fun s => vm_chk bt_159 [] (vk_F_rlo_1 s) 18 (vc_F_rlo_1 s) 0 26 && (vm_ents 159 18 (vc_F_rlo_1 s) (ve_F_rlo_1 s) && vm_kok (vk_F_rlo_1 s))) 67 1 = true := by decide +kernel
theorem vx_F_rlo_1_67 : vm_rng (fun s => vm_chk bt_159 [] (vk_F_rlo_1 s) 18 (vc_F_rlo_1 s) 0 26 && (vm_ents 159 18 (vc_F_rlo_1 s) (ve_F_rlo_1 s) && vm_kok (vk_F_rlo_1 s))) 68 1 = true := by decide +kernel
theorem vx_F_rlo_1_68 : vm_rng (fun s => vm_chk bt_159 [] (vk_F_rlo_1 s) 18 (vc_F_rlo_1 s) 0 26 && (vm_ents 159 18 (vc_F_rlo_1 s) (ve_F_rlo_1 s) && vm_kok (vk_F_rlo_1 s))) 69 1 = true := by decide +kernel
theorem vx_F_rlo_1_69 : vm_rng (fun s => vm_chk bt_159 [] (vk_F_rlo_1 s) 18 (vc_F_rlo_1 s) 0 26 && (vm_ents 159 18 (vc_F_rlo_1 s) (ve_F_rlo_1 s) && vm_kok (vk_F_rlo_1 s))) 70 1 = true := by decide +kernel
theorem vx_F_rlo_1_70 : vm_rng (fun s => vm_chk bt_159 [] (vk_F_rlo_1 s) 18 (vc_F_rlo_1 s) 0 26 && (vm_ents 159 18 (vc_F_rlo_1 s) (ve_F_rlo_1 s) && vm_kok (vk_F_rlo_1 s))) 71 1 = true := by decide +kernel
theorem vx_F_rlo_1_71 : vm_rng (fun s => vm_chk bt_159 [] (vk_F_rlo_1 s) 18 (vc_F_rlo_1 s) 0 26 && (vm_ents 159 18 (vc_F_rlo_1 s) (ve_F_rlo_1 s) && vm_kok (vk_F_rlo_1 s))) 72 1 = true := by decide +kernel
theorem vx_F_rlo_1_72 : vm_rng (fun s => vm_chk bt_159 [] (vk_F_rlo_1 s) 18 (vc_F_rlo_1 s) 0 26 && (vm_ents 159 18 (vc_F_rlo_1 s) (ve_F_rlo_1 s) && vm_kok (vk_F_rlo_1 s))) 73 1 = true := by decide +kernel
theorem vx_F_rlo_1_73 : vm_rng (fun s => vm_chk bt_159 [] (vk_F_rlo_1 s) 18 (vc_F_rlo_1 s) 0 26 && (vm_ents 159 18 (vc_F_rlo_1 s) (ve_F_rlo_1 s) && vm_kok (vk_F_rlo_1 s))) 74 1 = true := by decide +kernel
theorem vx_F_rlo_1_74 : vm_rng (fun s => vm_chk bt_159 [] (vk_F_rlo_1 s) 18 (vc_F_rlo_1 s) 0 26 && (vm_ents 159 18 (vc_F_rlo_1 s) (ve_F_rlo_1 s) && vm_kok (vk_F_rlo_1 s))) 75 1 = true := by decide +kernel
theorem vx_F_rlo_1_75 : vm_rng (fun s => vm_chk bt_159 [] (vk_F_rlo_1 s) 18 (vc_F_rlo_1 s) 0 26 && (vm_ents 159 18 (vc_F_rlo_1 s) (ve_F_rlo_1 s) && vm_kok (vk_F_rlo_1 s))) 76 1 = true := by decide +kernel
theorem vx_F_rlo_1_76 : vm_rng (fun s => vm_chk bt_159 [] (vk_F_rlo_1 s) 18 (vc_F_rlo_1 s) 0 26 && (vm_ents 159 18 (vc_F_rlo_1 s) (ve_F_rlo_1 s) && vm_kok (vk_F_rlo_1 s))) 77 1 = true := by decide +kernel
theorem vx_F_rlo_1_77 : vm_rng (fun s => vm_chk bt_159 [] (vk_F_rlo_1 s) 18 (vc_F_rlo_1 s) 0 26 && (vm_ents 159 18 (vc_F_rlo_1 s) (ve_F_rlo_1 s) && vm_kok (vk_F_rlo_1 s))) 78 1 = true := by decide +kernel
theorem vx_F_rlo_1_78 : vm_rng (fun s => vm_chk bt_159 [] (vk_F_rlo_1 s) 18 (vc_F_rlo_1 s) 0 26 && (vm_ents 159 18 (vc_F_rlo_1 s) (ve_F_rlo_1 s) && vm_kok (vk_F_rlo_1 s))) 79 1 = true := by decide +kernel
theorem vx_F_rlo_1_79 : vm_rng (fun s => vm_chk bt_159 [] (vk_F_rlo_1 s) 18 (vc_F_rlo_1 s) 0 26 && (vm_ents 159 18 (vc_F_rlo_1 s) (ve_F_rlo_1 s) && vm_kok (vk_F_rlo_1 s))) 80 1 = true := by decide +kernel
theorem vx_F_rlo_1_80 : vm_rng (fun s => vm_chk bt_159 [] (vk_F_rlo_1 s) 18 (vc_F_rlo_1 s) 0 26 && (vm_ents 159 18 (vc_F_rlo_1 s) (ve_F_rlo_1 s) && vm_kok (vk_F_rlo_1 s))) 81 1 = true := by decide +kernel
theorem vx_F_rlo_1_81 : vm_rng (fun s => vm_chk bt_159 [] (vk_F_rlo_1 s) 18 (vc_F_rlo_1 s) 0 26 && (vm_ents 159 18 (vc_F_rlo_1 s) (ve_F_rlo_1 s) && vm_kok (vk_F_rlo_1 s))) 82 1 = true := by decide +kernel
theorem vx_F_rlo_1_82 : vm_rng (fun s => vm_chk bt_159 [] (vk_F_rlo_1 s) 18 (vc_F_rlo_1 s) 0 26 && (vm_ents 159 18 (vc_F_rlo_1 s) (ve_F_rlo_1 s) && vm_kok (vk_F_rlo_1 s))) 83 1 = true := by decide +kernel
theorem vx_F_rlo_1_83 : vm_rng (fun s => vm_chk bt_159 [] (vk_F_rlo_1 s) 18 (vc_F_rlo_1 s) 0 26 && (vm_ents 159 18 (vc_F_rlo_1 s) (ve_F_rlo_1 s) && vm_kok (vk_F_rlo_1 s))) 84 1 = true := by decide +kernel
theorem vx_F_rlo_1_84 : vm_rng (fun s => vm_chk bt_159 [] (vk_F_rlo_1 s) 18 (vc_F_rlo_1 s) 0 26 && (vm_ents 159 18 (vc_F_rlo_1 s) (ve_F_rlo_1 s) && vm_kok (vk_F_rlo_1 s))) 85 1 = true := by decide +kernel
theorem vx_F_rlo_1_85 : vm_rng (fun s => vm_chk bt_159 [] (vk_F_rlo_1 s) 18 (vc_F_rlo_1 s) 0 26 && (vm_ents 159 18 (vc_F_rlo_1 s) (ve_F_rlo_1 s) && vm_kok (vk_F_rlo_1 s))) 86 1 = true := by decide +kernel
theorem vx_F_rlo_1_86 : vm_rng (fun s => vm_chk bt_159 [] (vk_F_rlo_1 s) 18 (vc_F_rlo_1 s) 0 26 && (vm_ents 159 18 (vc_F_rlo_1 s) (ve_F_rlo_1 s) && vm_kok (vk_F_rlo_1 s))) 87 1 = true := by decide +kernel
theorem vx_F_rlo_1_87 : vm_rng (fun s => vm_chk bt_159 [] (vk_F_rlo_1 s) 18 (vc_F_rlo_1 s) 0 26 && (vm_ents 159 18 (vc_F_rlo_1 s) (ve_F_rlo_1 s) && vm_kok (vk_F_rlo_1 s))) 88 1 = true := by decide +kernel
theorem vx_F_rlo_1_88 : vm_rng (fun s => vm_chk bt_159 [] (vk_F_rlo_1 s) 18 (vc_F_rlo_1 s) 0 26 && (vm_ents 159 18 (vc_F_rlo_1 s) (ve_F_rlo_1 s) && vm_kok (vk_F_rlo_1 s))) 89 1 = true := by decide +kernel
theorem vx_F_rlo_1_89 : vm_rng (fun s => vm_chk bt_159 [] (vk_F_rlo_1 s) 18 (vc_F_rlo_1 s) 0 26 && (vm_ents 159 18 (vc_F_rlo_1 s) (ve_F_rlo_1 s) && vm_kok (vk_F_rlo_1 s))) 90 1 = true := by decide +kernel
theorem vx_F_rlo_1_90 : vm_rng (fun s => vm_chk bt_159 [] (vk_F_rlo_1 s) 18 (vc_F_rlo_1 s) 0 26 && (vm_ents 159 18 (vc_F_rlo_1 s) (ve_F_rlo_1 s) && vm_kok (vk_F_rlo_1 s))) 91 1 = true := by decide +kernel
theorem vx_F_rlo_1_91 : vm_rng (fun s => vm_chk bt_159 [] (vk_F_rlo_1 s) 18 (vc_F_rlo_1 s) 0 26 && (vm_ents 159 18 (vc_F_rlo_1 s) (ve_F_rlo_1 s) && vm_kok (vk_F_rlo_1 s))) 92 1 = true := by decide +kernel
theorem vx_F_rlo_1_92 : vm_rng (fun s => vm_chk bt_159 [] (vk_F_rlo_1 s) 18 (vc_F_rlo_1 s) 0 26 && (vm_ents 159 18 (vc_F_rlo_1 s) (ve_F_rlo_1 s) && vm_kok (vk_F_rlo_1 s))) 93 1 = true := by decide +kernel
theorem vx_F_rlo_1_93 : vm_rng (fun s => vm_chk bt_159 [] (vk_F_rlo_1 s) 18 (vc_F_rlo_1 s) 0 26 && (vm_ents 159 18 (vc_F_rlo_1 s) (ve_F_rlo_1 s) && vm_kok (vk_F_rlo_1 s))) 94 1 = true := by decide +kernel
theorem vx_F_rlo_1_94 : vm_rng (fun s => vm_chk bt_159 [] (vk_F_rlo_1 s) 18 (vc_F_rlo_1 s) 0 26 && (vm_ents 159 18 (vc_F_rlo_1 s) (ve_F_rlo_1 s) && vm_kok (vk_F_rlo_1 s))) 95 1 = true := by decide +kernel
theorem vx_F_rlo_1_95 : vm_rng (fun s => vm_chk bt_159 [] (vk_F_rlo_1 s) 18 (vc_F_rlo_1 s) 0 26 && (vm_ents 159 18 (vc_F_rlo_1 s) (ve_F_rlo_1 s) && vm_kok (vk_F_rlo_1 s))) 96 1 = true := by decide +kernel
theorem vx_F_rlo_1_96 : vm_rng (fun s => vm_chk bt_159 [] (vk_F_rlo_1 s) 18 (vc_F_rlo_1 s) 0 26 && (vm_ents 159 18 (vc_F_rlo_1 s) (ve_F_rlo_1 s) && vm_kok (vk_F_rlo_1 s))) 97 1 = true := by decide +kernel
theorem vx_F_rlo_1_97 : vm_rng (fun s => vm_chk bt_159 [] (vk_F_rlo_1 s) 18 (vc_F_rlo_1 s) 0 26 && (vm_ents 159 18 (vc_F_rlo_1 s) (ve_F_rlo_1 s) && vm_kok (vk_F_rlo_1 s))) 98 1 = true := by decide +kernel
theorem vx_F_rlo_1_98 : vm_rng (fun s => vm_chk bt_159 [] (vk_F_rlo_1 s) 18 (vc_F_rlo_1 s) 0 26 && (vm_ents 159 18 (vc_F_rlo_1 s) (ve_F_rlo_1 s) && vm_kok (vk_F_rlo_1 s))) 99 1 = true := by decide +kernel
theorem vx_F_rlo_1_99 : vm_rng (fun s => vm_chk bt_159 [] (vk_F_rlo_1 s) 18 (vc_F_rlo_1 s) 0 26 && (vm_ents 159 18 (vc_F_rlo_1 s) (ve_F_rlo_1 s) && vm_kok (vk_F_rlo_1 s))) 100 1 = true := by decide +kernel
theorem vx_F_rlo_1_100 : vm_rng (fun s => vm_chk bt_159 [] (vk_F_rlo_1 s) 18 (vc_F_rlo_1 s) 0 26 && (vm_ents 159 18 (vc_F_rlo_1 s) (ve_F_rlo_1 s) && vm_kok (vk_F_rlo_1 s))) 101 1 = true := by decide +kernel
theorem vx_F_rlo_1_101 : vm_rng (fun s => vm_chk bt_159 [] (vk_F_rlo_1 s) 18 (vc_F_rlo_1 s) 0 26 && (vm_ents 159 18 (vc_F_rlo_1 s) (ve_F_rlo_1 s) && vm_kok (vk_F_rlo_1 s))) 102 1 = true := by decide +kernel
theorem vx_F_rlo_1_102 : vm_rng (fun s => vm_chk bt_159 [] (vk_F_rlo_1 s) 18 (vc_F_rlo_1 s) 0 26 && (vm_ents 159 18 (vc_F_rlo_1 s) (ve_F_rlo_1 s) && vm_kok (vk_F_rlo_1 s))) 103 1 = true := by decide +kernel
theorem vx_F_rlo_1_103 : vm_rng (fun s => vm_chk bt_159 [] (vk_F_rlo_1 s) 18 (vc_F_rlo_1 s) 0 26 && (vm_ents 159 18 (vc_F_rlo_1 s) (ve_F_rlo_1 s) && vm_kok (vk_F_rlo_1 s))) 104 1 = true := by decide +kernel
theorem vx_F_rlo_1_104 : vm_rng (fun s => vm_chk bt_159 [] (vk_F_rlo_1 s) 18 (vc_F_rlo_1 s) 0 26 && (vm_ents 159 18 (vc_F_rlo_1 s) (ve_F_rlo_1 s) && vm_kok (vk_F_rlo_1 s))) 105 1 = true := by decide +kernel
theorem vx_F_rlo_1_105 : vm_rng (fun s => vm_chk bt_159 [] (vk_F_rlo_1 s) 18 (vc_F_rlo_1 s) 0 26 && (vm_ents 159 18 (vc_F_rlo_1 s) (ve_F_rlo_1 s) && vm_kok (vk_F_rlo_1 s))) 106 1 = true := by decide +kernel
theorem vx_F_rlo_1_106 : vm_rng (fun s => vm_chk bt_159 [] (vk_F_rlo_1 s) 18 (vc_F_rlo_1 s) 0 26 && (vm_ents 159 18 (vc_F_rlo_1 s) (ve_F_rlo_1 s) && vm_kok (vk_F_rlo_1 s))) 107 1 = true := by decide +kernel
theorem vx_F_rlo_1_107 : vm_rng (fun s => vm_chk bt_159 [] (vk_F_rlo_1 s) 18 (vc_F_rlo_1 s) 0 26 && (vm_ents 159 18 (vc_F_rlo_1 s) (ve_F_rlo_1 s) && vm_kok (vk_F_rlo_1 s))) 108 1 = true := by decide +kernel
theorem vx_F_rlo_1_108 : vm_rng (fun s => vm_chk bt_159 [] (vk_F_rlo_1 s) 18 (vc_F_rlo_1 s) 0 26 && (vm_ents 159 18 (vc_F_rlo_1 s) (ve_F_rlo_1 s) && vm_kok (vk_F_rlo_1 s))) 109 1 = true := by decide +kernel
theorem vx_F_rlo_1_109 : vm_rng (fun s => vm_chk bt_159 [] (vk_F_rlo_1 s) 18 (vc_F_rlo_1 s) 0 26 && (vm_ents 159 18 (vc_F_rlo_1 s) (ve_F_rlo_1 s) && vm_kok (vk_F_rlo_1 s))) 110 1 = true := by decide +kernel
theorem vx_F_rlo_1_110 : vm_rng (fun s => vm_chk bt_159 [] (vk_F_rlo_1 s) 18 (vc_F_rlo_1 s) 0 26 && (vm_ents 159 18 (vc_F_rlo_1 s) (ve_F_rlo_1 s) && vm_kok (vk_F_rlo_1 s))) 111 1 = true := by decide +kernel
theorem vx_F_rlo_1_111 : vm_rng (fun s => vm_chk bt_159 [] (vk_F_rlo_1 s) 18 (vc_F_rlo_1 s) 0 26 && (vm_ents 159 18 (vc_F_rlo_1 s) (ve_F_rlo_1 s) && vm_kok (vk_F_rlo_1 s))) 112 1 = true := by decide +kernel
theorem vx_F_rlo_1_112 : vm_rng (fun s => vm_chk bt_159 [] (vk_F_rlo_1 s) 18 (vc_F_rlo_1 s) 0 26 && (vm_ents 159 18 (vc_F_rlo_1 s) (ve_F_rlo_1 s) && vm_kok (vk_F_rlo_1 s))) 113 1 = true := by decide +kernel
theorem vx_F_rlo_1_113 : vm_rng (fun s => vm_chk bt_159 [] (vk_F_rlo_1 s) 18 (vc_F_rlo_1 s) 0 26 && (vm_ents 159 18 (vc_F_rlo_1 s) (ve_F_rlo_1 s) && vm_kok (vk_F_rlo_1 s))) 114 1 = true := by decide +kernel
theorem vx_F_rlo_1_114 : vm_rng (fun s => vm_chk bt_159 [] (vk_F_rlo_1 s) 18 (vc_F_rlo_1 s) 0 26 && (vm_ents 159 18 (vc_F_rlo_1 s) (ve_F_rlo_1 s) && vm_kok (vk_F_rlo_1 s))) 115 1 = true := by decide +kernel
theorem vx_F_rlo_1_115 : vm_rng (fun s => vm_chk bt_159 [] (vk_F_rlo_1 s) 18 (vc_F_rlo_1 s) 0 26 && (vm_ents 159 18 (vc_F_rlo_1 s) (ve_F_rlo_1 s) && vm_kok (vk_F_rlo_1 s))) 116 1 = true := by decide +kernel
theorem vx_F_rlo_1_116 : vm_rng (fun s => vm_chk bt_159 [] (vk_F_rlo_1 s) 18 (vc_F_rlo_1 s) 0 26 && (vm_ents 159 18 (vc_F_rlo_1 s) (ve_F_rlo_1 s) && vm_kok (vk_F_rlo_1 s))) 117 1 = true := by decide +kernel
theorem vx_F_rlo_1_117 : vm_rng (fun s => vm_chk bt_159 [] (vk_F_rlo_1 s) 18 (vc_F_rlo_1 s) 0 26 && (vm_ents 159 18 (vc_F_rlo_1 s) (ve_F_rlo_1 s) && vm_kok (vk_F_rlo_1 s))) 118 1 = true := by decide +kernel
theorem vx_F_rlo_1_118 : vm_rng (fun s => vm_chk bt_159 [] (vk_F_rlo_1 s) 18 (vc_F_rlo_1 s) 0 26 && (vm_ents 159 18 (vc_F_rlo_1 s) (ve_F_rlo_1 s) && vm_kok (vk_F_rlo_1 s))) 119 1 = true := by decide +kernel
theorem vx_F_rlo_1_119 : vm_rng (fun s => vm_chk bt_159 [] (vk_F_rlo_1 s) 18 (vc_F_rlo_1 s) 0 26 && (vm_ents 159 18 (vc_F_rlo_1 s) (ve_F_rlo_1 s) && vm_kok (vk_F_rlo_1 s))) 120 1 = true := by decide +kernel
theorem vx_F_rlo_1_120 : vm_rng (fun s => vm_chk bt_159 [] (vk_F_rlo_1 s) 18 (vc_F_rlo_1 s) 0 26 && (vm_ents 159 18 (vc_F_rlo_1 s) (ve_F_rlo_1 s) && vm_kok (vk_F_rlo_1 s))) 121 1 = true := by decide +kernel
theorem vx_F_rlo_1_121 : vm_rng (fun s => vm_chk bt_159 [] (vk_F_rlo_1 s) 18 (vc_F_rlo_1 s) 0 26 && (vm_ents 159 18 (vc_F_rlo_1 s) (ve_F_rlo_1 s) && vm_kok (vk_F_rlo_1 s))) 122 1 = true := by decide +kernel
theorem vx_F_rlo_1_122 : vm_rng (fun s => vm_chk bt_159 [] (vk_F_rlo_1 s) 18 (vc_F_rlo_1 s) 0 26 && (vm_ents 159 18 (vc_F_rlo_1 s) (ve_F_rlo_1 s) && vm_kok (vk_F_rlo_1 s))) 123 1 = true := by decide +kernel
theorem vx_F_rlo_1_123 : vm_rng (fun s => vm_chk bt_159 [] (vk_F_rlo_1 s) 18 (vc_F_rlo_1 s) 0 26 && (vm_ents 159 18 (vc_F_rlo_1 s) (ve_F_rlo_1 s) && vm_kok (vk_F_rlo_1 s))) 124 1 = true := by decide +kernel
theorem vx_F_rlo_1_124 : vm_rng (fun s => vm_chk bt_159 [] (vk_F_rlo_1 s) 18 (vc_F_rlo_1 s) 0 26 && (vm_ents 159 18 (vc_F_rlo_1 s) (ve_F_rlo_1 s) && vm_kok (vk_F_rlo_1 s))) 125 1 = true := by decide +kernel
theorem vx_F_rlo_1_125 : vm_rng (fun s => vm_chk bt_159 [] (vk_F_rlo_1 s) 18 (vc_F_rlo_1 s) 0 26 && (vm_ents 159 18 (vc_F_rlo_1 s) (ve_F_rlo_1 s) && vm_kok (vk_F_rlo_1 s))) 126 1 = true := by decide +kernel
theorem vx_F_rlo_1_126 : vm_rng (fun s => vm_chk bt_159 [] (vk_F_rlo_1 s) 18 (vc_F_rlo_1 s) 0 26 && (vm_ents 159 18 (vc_F_rlo_1 s) (ve_F_rlo_1 s) && vm_kok (vk_F_rlo_1 s))) 127 1 = true := by decide +kernel
theorem vx_F_rlo_1_127 : vm_rng (fun s => vm_chk bt_159 [] (vk_F_rlo_1 s) 18 (vc_F_rlo_1 s) 0 26 && (vm_ents 159 18 (vc_F_rlo_1 s) (ve_F_rlo_1 s) && vm_kok (vk_F_rlo_1 s))) 128 1 = true := by decide +kernel
theorem vx_F_rlo_1_128 : vm_rng (fun s => vm_chk bt_159 [] (vk_F_rlo_1 s) 18 (vc_F_rlo_1 s) 0 26 && (vm_ents 159 18 (vc_F_rlo_1 s) (ve_F_rlo_1 s) && vm_kok (vk_F_rlo_1 s))) 129 1 = true := by decide +kernel
theorem vx_F_rlo_1_129 : vm_rng (fun s => vm_chk bt_159 [] (vk_F_rlo_1 s) 18 (vc_F_rlo_1 s) 0 26 && (vm_ents 159 18 (vc_F_rlo_1 s) (ve_F_rlo_1 s) && vm_kok (vk_F_rlo_1 s))) 130 1 = true := by decide +kernel
theorem vx_F_rlo_1_130 : vm_rng (fun s => vm_chk bt_159 [] (vk_F_rlo_1 s) 18 (vc_F_rlo_1 s) 0 26 && (vm_ents 159 18 (vc_F_rlo_1 s) (ve_F_rlo_1 s) && vm_kok (vk_F_rlo_1 s))) 131 1 = true := by decide +kernel
theorem vx_F_rlo_1_131 : vm_rng (fun s => vm_chk bt_159 [] (vk_F_rlo_1 s) 18 (vc_F_rlo_1 s) 0 26 && (vm_ents 159 18 (vc_F_rlo_1 s) (ve_F_rlo_1 s) && vm_kok (vk_F_rlo_1 s))) 132 1 = true := by decide +kernel
theorem vx_F_rlo_1_132 : vm_rng (fun s => vm_chk bt_159 [] (vk_F_rlo_1 s) 18 (vc_F_rlo_1 s) 0 26 && (vm_ents 159 18 (vc_F_rlo_1 s) (ve_F_rlo_1 s) && vm_kok (vk_F_rlo_1 s))) 133 1 = true := by decide +kernel
theorem vx_F_rlo_1_133 : vm_rng (fun s => vm_chk bt_159 [] (vk_F_rlo_1 s) 18 (vc_F_rlo_1 s) 0 26 && (vm_ents 159 18 (vc_F_rlo_1 s) (ve_F_rlo_1 s) && vm_kok (vk_F_rlo_1 s))) 134 1 = true := by decide +kernel
theorem vx_F_rlo_1_134 : vm_rng (fun s => vm_chk bt_159 [] (vk_F_rlo_1 s) 18 (vc_F_rlo_1 s) 0 26 && (vm_ents 159 18 (vc_F_rlo_1 s) (ve_F_rlo_1 s) && vm_kok (vk_F_rlo_1 s))) 135 1 = true := by decide +kernel
theorem vx_F_rlo_1_135 : vm_rng (fun s => vm_chk bt_159 [] (vk_F_rlo_1 s) 18 (vc_F_rlo_1 s) 0 26 && (vm_ents 159 18 (vc_F_rlo_1 s) (ve_F_rlo_1 s) && vm_kok (vk_F_rlo_1 s))) 136 1 = true := by decide +kernel
theorem vx_F_rlo_1_136 : vm_rng (fun s => vm_chk bt_159 [] (vk_F_rlo_1 s) 18 (vc_F_rlo_1 s) 0 26 && (vm_ents 159 18 (vc_F_rlo_1 s) (ve_F_rlo_1 s) && vm_kok (vk_F_rlo_1 s))) 137 1 = true := by decide +kernel
theorem vx_F_rlo_1_137 : vm_rng (fun s => vm_chk bt_159 [] (vk_F_rlo_1 s) 18 (vc_F_rlo_1 s) 0 26 && (vm_ents 159 18 (vc_F_rlo_1 s) (ve_F_rlo_1 s) && vm_kok (vk_F_rlo_1 s))) 138 1 = true := by decide +kernel
theorem vx_F_rlo_1_138 : vm_rng (fun s => vm_chk bt_159 [] (vk_F_rlo_1 s) 18 (vc_F_rlo_1 s) 0 26 && (vm_ents 159 18 (vc_F_rlo_1 s) (ve_F_rlo_1 s) && vm_kok (vk_F_rlo_1 s))) 139 1 = true := by decide +kernel
theorem vx_F_rlo_1_139 : vm_rng (fun s => vm_chk bt_159 [] (vk_F_rlo_1 s) 18 (vc_F_rlo_1 s) 0 26 && (vm_ents 159 18 (vc_F_rlo_1 s) (ve_F_rlo_1 s) && vm_kok (vk_F_rlo_1 s))) 140 1 = true := by decide +kernel
theorem vx_F_rlo_1_140 : vm_rng (fun s => vm_chk bt_159 [] (vk_F_rlo_1 s) 18 (vc_F_rlo_1 s) 0 26 && (vm_ents 159 18 (vc_F_rlo_1 s) (ve_F_rlo_1 s) && vm_kok (vk_F_rlo_1 s))) 141 1 = true := by decide +kernel
theorem vx_F_rlo_1_141 : vm_rng (fun s => vm_chk bt_159 [] (vk_F_rlo_1 s) 18 (vc_F_rlo_1 s) 0 26 && (vm_ents 159 18 (vc_F_rlo_1 s) (ve_F_rlo_1 s) && vm_kok (vk_F_rlo_1 s))) 142 1 = true := by decide +kernel
theorem vx_F_rlo_1_142 : vm_rng (fun s => vm_chk bt_159 [] (vk_F_rlo_1 s) 18 (vc_F_rlo_1 s) 0 26 && (vm_ents 159 18 (vc_F_rlo_1 s) (ve_F_rlo_1 s) && vm_kok (vk_F_rlo_1 s))) 143 1 = true := by decide +kernel
theorem vx_F_rlo_1_143 : vm_rng (fun s => vm_chk bt_159 [] (vk_F_rlo_1 s) 18 (vc_F_rlo_1 s) 0 26 && (vm_ents 159 18 (vc_F_rlo_1 s) (ve_F_rlo_1 s) && vm_kok (vk_F_rlo_1 s))) 144 1 = true := by decide +kernel
theorem vx_F_rlo_1_144 : vm_rng (fun s => vm_chk bt_159 [] (vk_F_rlo_1 s) 18 (vc_F_rlo_1 s) 0 26 && (vm_ents 159 18 (vc_F_rlo_1 s) (ve_F_rlo_1 s) && vm_kok (vk_F_rlo_1 s))) 145 1 = true := by decide +kernel
theorem vx_F_rlo_1_145 : vm_rng (fun s => vm_chk bt_159 [] (vk_F_rlo_1 s) 18 (vc_F_rlo_1 s) 0 26 && (vm_ents 159 18 (vc_F_rlo_1 s) (ve_F_rlo_1 s) && vm_kok (vk_F_rlo_1 s))) 146 1 = true := by decide +kernel
theorem vx_F_rlo_1_146 : vm_rng (fun s => vm_chk bt_159 [] (vk_F_rlo_1 s) 18 (vc_F_rlo_1 s) 0 26 && (vm_ents 159 18 (vc_F_rlo_1 s) (ve_F_rlo_1 s) && vm_kok (vk_F_rlo_1 s))) 147 1 = true := by decide +kernel
theorem vx_F_rlo_1_147 : vm_rng (fun s => vm_chk bt_159 [] (vk_F_rlo_1 s) 18 (vc_F_rlo_1 s) 0 26 && (vm_ents 159 18 (vc_F_rlo_1 s) (ve_F_rlo_1 s) && vm_kok (vk_F_rlo_1 s))) 148 1 = true := by decide +kernel
theorem vx_F_rlo_1_148 : vm_rng (fun s => vm_chk bt_159 [] (vk_F_rlo_1 s) 18 (vc_F_rlo_1 s) 0 26 && (vm_ents 159 18 (vc_F_rlo_1 s) (ve_F_rlo_1 s) && vm_kok (vk_F_rlo_1 s))) 149 1 = true := by decide +kernel
theorem vx_F_rlo_1_149 : vm_rng (fun s => vm_chk bt_159 [] (vk_F_rlo_1 s) 18 (vc_F_rlo_1 s) 0 26 && (vm_ents 159 18 (vc_F_rlo_1 s) (ve_F_rlo_1 s) && vm_kok (vk_F_rlo_1 s))) 150 1 = true := by decide +kernel
theorem vx_F_rlo_1_150 : vm_rng (fun s => vm_chk bt_159 [] (vk_F_rlo_1 s) 18 (vc_F_rlo_1 s) 0 26 && (vm_ents 159 18 (vc_F_rlo_1 s) (ve_F_rlo_1 s) && vm_kok (vk_F_rlo_1 s))) 151 1 = true := by decide +kernel
theorem vx_F_rlo_1_151 : vm_rng (fun s => vm_chk bt_159 [] (vk_F_rlo_1 s) 18 (vc_F_rlo_1 s) 0 26 && (vm_ents 159 18 (vc_F_rlo_1 s) (ve_F_rlo_1 s) && vm_kok (vk_F_rlo_1 s))) 152 1 = true := by decide +kernel
theorem vx_F_rlo_1_152 : vm_rng (fun s => vm_chk bt_159 [] (vk_F_rlo_1 s) 18 (vc_F_rlo_1 s) 0 26 && (vm_ents 159 18 (vc_F_rlo_1 s) (ve_F_rlo_1 s) && vm_kok (vk_F_rlo_1 s))) 153 1 = true := by decide +kernel
theorem vx_F_rlo_1_153 : vm_rng (fun s => vm_chk bt_159 [] (vk_F_rlo_1 s) 18 (vc_F_rlo_1 s) 0 26 && (vm_ents 159 18 (vc_F_rlo_1 s) (ve_F_rlo_1 s) && vm_kok (vk_F_rlo_1 s))) 154 1 = true := by decide +kernel
theorem vx_F_rlo_1_154 : vm_rng (fun s => vm_chk bt_159 [] (vk_F_rlo_1 s) 18 (vc_F_rlo_1 s) 0 26 && (vm_ents 159 18 (vc_F_rlo_1 s) (ve_F_rlo_1 s) && vm_kok (vk_F_rlo_1 s))) 155 1 = true := by decide +kernel
set_option maxRecDepth 20000 in
theorem vz_F_rlo_1 (s : Nat) (h1 : 1 ≤ s) (h2 : s < 156) : (vm_chk bt_159 [] (vk_F_rlo_1 s) 18 (vc_F_rlo_1 s) 0 26 && (vm_ents 159 18 (vc_F_rlo_1 s) (ve_F_rlo_1 s) && vm_kok (vk_F_rlo_1 s))) = true := by
  by_cases g0 : s < 2
  · exact vm_rng_ok vx_F_rlo_1_0 s (by omega) (by omega)
  by_cases g1 : s < 3
  · exact vm_rng_ok vx_F_rlo_1_1 s (by omega) (by omega)
  by_cases g2 : s < 4
  · exact vm_rng_ok vx_F_rlo_1_2 s (by omega) (by omega)
  by_cases g3 : s < 5
  · exact vm_rng_ok vx_F_rlo_1_3 s (by omega) (by omega)
  by_cases g4 : s < 6
  · exact vm_rng_ok vx_F_rlo_1_4 s (by omega) (by omega)
  by_cases g5 : s < 7
  · exact vm_rng_ok vx_F_rlo_1_5 s (by omega) (by omega)
  by_cases g6 : s < 8
  · exact vm_rng_ok vx_F_rlo_1_6 s (by omega) (by omega)
  by_cases g7 : s < 9
  · exact vm_rng_ok vx_F_rlo_1_7 s (by omega) (by omega)
  by_cases g8 : s < 10
  · exact vm_rng_ok vx_F_rlo_1_8 s (by omega) (by omega)
  by_cases g9 : s < 11
  · exact vm_rng_ok vx_F_rlo_1_9 s (by omega) (by omega)
  by_cases g10 : s < 12
  · exact vm_rng_ok vx_F_rlo_1_10 s (by omega) (by omega)
  by_cases g11 : s < 13
  · exact vm_rng_ok vx_F_rlo_1_11 s (by omega) (by omega)
  by_cases g12 : s < 14
  · exact vm_rng_ok vx_F_rlo_1_12 s (by omega) (by omega)
  by_cases g13 : s < 15
  · exact vm_rng_ok vx_F_rlo_1_13 s (by omega) (by omega)
  by_cases g14 : s < 16
  · exact vm_rng_ok vx_F_rlo_1_14 s (by omega) (by omega)
  by_cases g15 : s < 17
  · exact vm_rng_ok vx_F_rlo_1_15 s (by omega) (by omega)
  by_cases g16 : s < 18
  · exact vm_rng_ok vx_F_rlo_1_16 s (by omega) (by omega)
  by_cases g17 : s < 19
  · exact vm_rng_ok vx_F_rlo_1_17 s (by omega) (by omega)
  by_cases g18 : s < 20
  · exact vm_rng_ok vx_F_rlo_1_18 s (by omega) (by omega)
  by_cases g19 : s < 21
  · exact vm_rng_ok vx_F_rlo_1_19 s (by omega) (by omega)
  by_cases g20 : s < 22
  · exact vm_rng_ok vx_F_rlo_1_20 s (by omega) (by omega)
  by_cases g21 : s < 23
  · exact vm_rng_ok vx_F_rlo_1_21 s (by omega) (by omega)
  by_cases g22 : s < 24
  · exact vm_rng_ok vx_F_rlo_1_22 s (by omega) (by omega)
  by_cases g23 : s < 25
  · exact vm_rng_ok vx_F_rlo_1_23 s (by omega) (by omega)
  by_cases g24 : s < 26
  · exact vm_rng_ok vx_F_rlo_1_24 s (by omega) (by omega)
  by_cases g25 : s < 27
  · exact vm_rng_ok vx_F_rlo_1_25 s (by omega) (by omega)
  by_cases g26 : s < 28
  · exact vm_rng_ok vx_F_rlo_1_26 s (by omega) (by omega)
  by_cases g27 : s < 29
  · exact vm_rng_ok vx_F_rlo_1_27 s (by omega) (by omega)
  by_cases g28 : s < 30
  · exact vm_rng_ok vx_F_rlo_1_28 s (by omega) (by omega)
  by_cases g29 : s < 31
  · exact vm_rng_ok vx_F_rlo_1_29 s (by omega) (by omega)
  by_cases g30 : s < 32
  · exact vm_rng_ok vx_F_rlo_1_30 s (by omega) (by omega)
  by_cases g31 : s < 33
  · exact vm_rng_ok vx_F_rlo_1_31 s (by omega) (by omega)
  by_cases g32 : s < 34
  · exact vm_rng_ok vx_F_rlo_1_32 s (by omega) (by omega)
  by_cases g33 : s < 35
  · exact vm_rng_ok vx_F_rlo_1_33 s (by omega) (by omega)
  by_cases g34 : s < 36
  · exact vm_rng_ok vx_F_rlo_1_34 s (by omega) (by omega)
  by_cases g35 : s < 37
  · exact vm_rng_ok vx_F_rlo_1_35 s (by omega) (by omega)
  by_cases g36 : s < 38
  · exact vm_rng_ok vx_F_rlo_1_36 s (by omega) (by omega)
  by_cases g37 : s < 39
  · exact vm_rng_ok vx_F_rlo_1_37 s (by omega) (by omega)
  by_cases g38 : s < 40
  · exact vm_rng_ok vx_F_rlo_1_38 s (by omega) (by omega)
  by_cases g39 : s < 41
  · exact vm_rng_ok vx_F_rlo_1_39 s (by omega) (by omega)
  by_cases g40 : s < 42
  · exact vm_rng_ok vx_F_rlo_1_40 s (by omega) (by omega)
  by_cases g41 : s < 43
  · exact vm_rng_ok vx_F_rlo_1_41 s (by omega) (by omega)
  by_cases g42 : s < 44
  · exact vm_rng_ok vx_F_rlo_1_42 s (by omega) (by omega)
  by_cases g43 : s < 45
  · exact vm_rng_ok vx_F_rlo_1_43 s (by omega) (by omega)
  by_cases g44 : s < 46
  · exact vm_rng_ok vx_F_rlo_1_44 s (by omega) (by omega)
  by_cases g45 : s < 47
  · exact vm_rng_ok vx_F_rlo_1_45 s (by omega) (by omega)
  by_cases g46 : s < 48
  · exact vm_rng_ok vx_F_rlo_1_46 s (by omega) (by omega)
  by_cases g47 : s < 49
  · exact vm_rng_ok vx_F_rlo_1_47 s (by omega) (by omega)
  by_cases g48 : s < 50
  · exact vm_rng_ok vx_F_rlo_1_48 s (by omega) (by omega)
  by_cases g49 : s < 51
  · exact vm_rng_ok vx_F_rlo_1_49 s (by omega) (by omega)
  by_cases g50 : s < 52
  · exact vm_rng_ok vx_F_rlo_1_50 s (by omega) (by omega)
  by_cases g51 : s < 53
  · exact vm_rng_ok vx_F_rlo_1_51 s (by omega) (by omega)
  by_cases g52 : s < 54
  · exact vm_rng_ok vx_F_rlo_1_52 s (by omega) (by omega)
  by_cases g53 : s < 55
  · exact vm_rng_ok vx_F_rlo_1_53 s (by omega) (by omega)
  by_cases g54 : s < 56
  · exact vm_rng_ok vx_F_rlo_1_54 s (by omega) (by omega)
  by_cases g55 : s < 57
  · exact vm_rng_ok vx_F_rlo_1_55 s (by omega) (by omega)
  by_cases g56 : s < 58
  · exact vm_rng_ok vx_F_rlo_1_56 s (by omega) (by omega)
  by_cases g57 : s < 59
  · exact vm_rng_ok vx_F_rlo_1_57 s (by omega) (by omega)
  by_cases g58 : s < 60
  · exact vm_rng_ok vx_F_rlo_1_58 s (by omega) (by omega)
  by_cases g59 : s < 61
  · exact vm_rng_ok vx_F_rlo_1_59 s (by omega) (by omega)
  by_cases g60 : s < 62
  · exact vm_rng_ok vx_F_rlo_1_60 s (by omega) (by omega)
  by_cases g61 : s < 63
  · exact vm_rng_ok vx_F_rlo_1_61 s (by omega) (by omega)
  by_cases g62 : s < 64
  · exact vm_rng_ok vx_F_rlo_1_62 s (by omega) (by omega)
  by_cases g63 : s < 65
  · exact vm_rng_ok vx_F_rlo_1_63 s (by omega) (by omega)
  by_cases g64 : s < 66
  · exact vm_rng_ok vx_F_rlo_1_64 s (by omega) (by omega)
  by_cases g65 : s < 67
  · exact vm_rng_ok vx_F_rlo_1_65 s (by omega) (by omega)
  by_cases g66 : s < 68
  · exact vm_rng_ok vx_F_rlo_1_66 s (by omega) (by omega)
  by_cases g67 : s < 69
  · exact vm_rng_ok vx_F_rlo_1_67 s (by omega) (by omega)
  by_cases g68 : s < 70
  · exact vm_rng_ok vx_F_rlo_1_68 s (by omega) (by omega)
  by_cases g69 : s < 71
  · exact vm_rng_ok vx_F_rlo_1_69 s (by omega) (by omega)
  by_cases g70 : s < 72
  · exact vm_rng_ok vx_F_rlo_1_70 s (by omega) (by omega)
  by_cases g71 : s < 73
  · exact vm_rng_ok vx_F_rlo_1_71 s (by omega) (by omega)
  by_cases g72 : s < 74
  · exact vm_rng_ok vx_F_rlo_1_72 s (by omega) (by omega)
  by_cases g73 : s < 75
  · exact vm_rng_ok vx_F_rlo_1_73 s (by omega) (by omega)
  by_cases g74 : s < 76
  · exact vm_rng_ok vx_F_rlo_1_74 s (by omega) (by omega)
  by_cases g75 : s < 77
  · exact vm_rng_ok vx_F_rlo_1_75 s (by omega) (by omega)
  by_cases g76 : s < 78
  · exact vm_rng_ok vx_F_rlo_1_76 s (by omega) (by omega)
  by_cases g77 : s < 79
  · exact vm_rng_ok vx_F_rlo_1_77 s (by omega) (by omega)
  by_cases g78 : s < 80
  · exact vm_rng_ok vx_F_rlo_1_78 s (by omega) (by omega)
  by_cases g79 : s < 81
  · exact vm_rng_ok vx_F_rlo_1_79 s (by omega) (by omega)
  by_cases g80 : s < 82
  · exact vm_rng_ok vx_F_rlo_1_80 s (by omega) (by omega)
  by_cases g81 : s < 83
  · exact vm_rng_ok vx_F_rlo_1_81 s (by omega) (by omega)
  by_cases g82 : s < 84
  · exact vm_rng_ok vx_F_rlo_1_82 s (by omega) (by omega)
  by_cases g83 : s < 85
  · exact vm_rng_ok vx_F_rlo_1_83 s (by omega) (by omega)
  by_cases g84 : s < 86
  · exact vm_rng_ok vx_F_rlo_1_84 s (by omega) (by omega)
  by_cases g85 : s < 87
  · exact vm_rng_ok vx_F_rlo_1_85 s (by omega) (by omega)
  by_cases g86 : s < 88
  · exact vm_rng_ok vx_F_rlo_1_86 s (by omega) (by omega)
  by_cases g87 : s < 89
  · exact vm_rng_ok vx_F_rlo_1_87 s (by omega) (by omega)
  by_cases g88 : s < 90
  · exact vm_rng_ok vx_F_rlo_1_88 s (by omega) (by omega)
  by_cases g89 : s < 91
  · exact vm_rng_ok vx_F_rlo_1_89 s (by omega) (by omega)
  by_cases g90 : s < 92
  · exact vm_rng_ok vx_F_rlo_1_90 s (by omega) (by omega)
  by_cases g91 : s < 93
  · exact vm_rng_ok vx_F_rlo_1_91 s (by omega) (by omega)
  by_cases g92 : s < 94
  · exact vm_rng_ok vx_F_rlo_1_92 s (by omega) (by omega)
  by_cases g93 : s < 95
  · exact vm_rng_ok vx_F_rlo_1_93 s (by omega) (by omega)
  by_cases g94 : s < 96
  · exact vm_rng_ok vx_F_rlo_1_94 s (by omega) (by omega)
  by_cases g95 : s < 97
  · exact vm_rng_ok vx_F_rlo_1_95 s (by omega) (by omega)
  by_cases g96 : s < 98
  · exact vm_rng_ok vx_F_rlo_1_96 s (by omega) (by omega)
  by_cases g97 : s < 99
  · exact vm_rng_ok vx_F_rlo_1_97 s (by omega) (by omega)
  by_cases g98 : s < 100
  · exact vm_rng_ok vx_F_rlo_1_98 s (by omega) (by omega)
  by_cases g99 : s < 101
  · exact vm_rng_ok vx_F_rlo_1_99 s (by omega) (by omega)
  by_cases g100 : s < 102
  · exact vm_rng_ok vx_F_rlo_1_100 s (by omega) (by omega)
  by_cases g101 : s < 103
  · exact vm_rng_ok vx_F_rlo_1_101 s (by omega) (by omega)
  by_cases g102 : s < 104
  · exact vm_rng_ok vx_F_rlo_1_102 s (by omega) (by omega)
  by_cases g103 : s < 105
  · exact vm_rng_ok vx_F_rlo_1_103 s (by omega) (by omega)
  by_cases g104 : s < 106
  · exact vm_rng_ok vx_F_rlo_1_104 s (by omega) (by omega)
  by_cases g105 : s < 107
  · exact vm_rng_ok vx_F_rlo_1_105 s (by omega) (by omega)
  by_cases g106 : s < 108
  · exact vm_rng_ok vx_F_rlo_1_106 s (by omega) (by omega)
  by_cases g107 : s < 109
  · exact vm_rng_ok vx_F_rlo_1_107 s (by omega) (by omega)
  by_cases g108 : s < 110
  · exact vm_rng_ok vx_F_rlo_1_108 s (by omega) (by omega)
  by_cases g109 : s < 111
  · exact vm_rng_ok vx_F_rlo_1_109 s (by omega) (by omega)
  by_cases g110 : s < 112
  · exact vm_rng_ok vx_F_rlo_1_110 s (by omega) (by omega)
  by_cases g111 : s < 113
  · exact vm_rng_ok vx_F_rlo_1_111 s (by omega) (by omega)
  by_cases g112 : s < 114
  · exact vm_rng_ok vx_F_rlo_1_112 s (by omega) (by omega)
  by_cases g113 : s < 115
  · exact vm_rng_ok vx_F_rlo_1_113 s (by omega) (by omega)
  by_cases g114 : s < 116
  · exact vm_rng_ok vx_F_rlo_1_114 s (by omega) (by omega)
  by_cases g115 : s < 117
  · exact vm_rng_ok vx_F_rlo_1_115 s (by omega) (by omega)
  by_cases g116 : s < 118
  · exact vm_rng_ok vx_F_rlo_1_116 s (by omega) (by omega)
  by_cases g117 : s < 119
  · exact vm_rng_ok vx_F_rlo_1_117 s (by omega) (by omega)
  by_cases g118 : s < 120
  · exact vm_rng_ok vx_F_rlo_1_118 s (by omega) (by omega)
  by_cases g119 : s < 121
  · exact vm_rng_ok vx_F_rlo_1_119 s (by omega) (by omega)
  by_cases g120 : s < 122
  · exact vm_rng_ok vx_F_rlo_1_120 s (by omega) (by omega)
  by_cases g121 : s < 123
  · exact vm_rng_ok vx_F_rlo_1_121 s (by omega) (by omega)
  by_cases g122 : s < 124
  · exact vm_rng_ok vx_F_rlo_1_122 s (by omega) (by omega)
  by_cases g123 : s < 125
  · exact vm_rng_ok vx_F_rlo_1_123 s (by omega) (by omega)
  by_cases g124 : s < 126
  · exact vm_rng_ok vx_F_rlo_1_124 s (by omega) (by omega)
  by_cases g125 : s < 127
  · exact vm_rng_ok vx_F_rlo_1_125 s (by omega) (by omega)
  by_cases g126 : s < 128
  · exact vm_rng_ok vx_F_rlo_1_126 s (by omega) (by omega)
  by_cases g127 : s < 129
  · exact vm_rng_ok vx_F_rlo_1_127 s (by omega) (by omega)
  by_cases g128 : s < 130
  · exact vm_rng_ok vx_F_rlo_1_128 s (by omega) (by omega)
  by_cases g129 : s < 131
  · exact vm_rng_ok vx_F_rlo_1_129 s (by omega) (by omega)
  by_cases g130 : s < 132
  · exact vm_rng_ok vx_F_rlo_1_130 s (by omega) (by omega)
  by_cases g131 : s < 133
  · exact vm_rng_ok vx_F_rlo_1_131 s (by omega) (by omega)
  by_cases g132 : s < 134
  · exact vm_rng_ok vx_F_rlo_1_132 s (by omega) (by omega)
  by_cases g133 : s < 135
  · exact vm_rng_ok vx_F_rlo_1_133 s (by omega) (by omega)
  by_cases g134 : s < 136
  · exact vm_rng_ok vx_F_rlo_1_134 s (by omega) (by omega)
  by_cases g135 : s < 137
  · exact vm_rng_ok vx_F_rlo_1_135 s (by omega) (by omega)
  by_cases g136 : s < 138
  · exact vm_rng_ok vx_F_rlo_1_136 s (by omega) (by omega)
  by_cases g137 : s < 139
  · exact vm_rng_ok vx_F_rlo_1_137 s (by omega) (by omega)
  by_cases g138 : s < 140
  · exact vm_rng_ok vx_F_rlo_1_138 s (by omega) (by omega)
  by_cases g139 : s < 141
  · exact vm_rng_ok vx_F_rlo_1_139 s (by omega) (by omega)
  by_cases g140 : s < 142
  · exact vm_rng_ok vx_F_rlo_1_140 s (by omega) (by omega)
  by_cases g141 : s < 143
  · exact vm_rng_ok vx_F_rlo_1_141 s (by omega) (by omega)
  by_cases g142 : s < 144
  · exact vm_rng_ok vx_F_rlo_1_142 s (by omega) (by omega)
  by_cases g143 : s < 145
  · exact vm_rng_ok vx_F_rlo_1_143 s (by omega) (by omega)
  by_cases g144 : s < 146
  · exact vm_rng_ok vx_F_rlo_1_144 s (by omega) (by omega)
  by_cases g145 : s < 147
  · exact vm_rng_ok vx_F_rlo_1_145 s (by omega) (by omega)
  by_cases g146 : s < 148
  · exact vm_rng_ok vx_F_rlo_1_146 s (by omega) (by omega)
  by_cases g147 : s < 149
  · exact vm_rng_ok vx_F_rlo_1_147 s (by omega) (by omega)
  by_cases g148 : s < 150
  · exact vm_rng_ok vx_F_rlo_1_148 s (by omega) (by omega)
  by_cases g149 : s < 151
  · exact vm_rng_ok vx_F_rlo_1_149 s (by omega) (by omega)
  by_cases g150 : s < 152
  · exact vm_rng_ok vx_F_rlo_1_150 s (by omega) (by omega)
  by_cases g151 : s < 153
  · exact vm_rng_ok vx_F_rlo_1_151 s (by omega) (by omega)
  by_cases g152 : s < 154
  · exact vm_rng_ok vx_F_rlo_1_152 s (by omega) (by omega)
  by_cases g153 : s < 155
  · exact vm_rng_ok vx_F_rlo_1_153 s (by omega) (by omega)
  exact vm_rng_ok vx_F_rlo_1_154 s (by omega) (by omega)
theorem v_F_rlo_1 (s : Nat) (h1 : 1 ≤ s) (h2 : s < 156) : vm_at 5 (q_F_rlo_1 s) := by
  have h := vz_F_rlo_1 s h1 h2
  rw [Bool.and_eq_true, Bool.and_eq_true] at h
  exact vm_ok (inl := []) (es := ve_F_rlo_1 s) bq_159 (by decide) (vm_wts (L := 4) (vm_kc (vm_up v_919 rfl) (vm_kc (vm_up (v_F_rn_0_9 (s + 3) (by omega) (by omega)) rfl) (vm_kc (vm_up (v_F_rn_0_9 (s + 2) (by omega) (by omega)) rfl) (vm_kc (vm_up (v_F_rn_0_9 (s + 1) (by omega) (by omega)) rfl) (vm_kc (vm_up (v_F_rn_0_9 (s + 0) (by omega) (by omega)) rfl) vm_kn))))) h.2.2) h.2.1 (fun i => vm_hc h.1 rfl (fun h => absurd h (Nat.not_lt_zero _))) _ List.mem_cons_self
noncomputable def vp_943 : List vm_R := [(none, va_h168), (none, va_h342)]
noncomputable def ve_943 : List vm_E := [([.inr (.inr (some 70)), .inl (.ofNat 2, .ofNat 2)], va_h340, 0, [0])]
noncomputable def q_943 : vm_Q := (159, [.inr (.inr (some 70)), .inl (.ofNat 2, .ofNat 2)], va_h340, vp_943)
noncomputable def vk_943 : List vm_U := [(q_935, false, [(7, 62, 6), (7, 62, 7)])]
noncomputable def vf_943 : List ((Nat → am_I) → vm_A) := [fun v => (0, [(0, .inr (.inr (some 70))), (1, .inl (.ofNat 2, .ofNat 2))], [], (80, [(62, va_c225)]))]
noncomputable def vd_943_0_0 : List (List Nat) := [[0]]
noncomputable def vd_943_0 : List (List (List Nat)) := [vd_943_0_0]
noncomputable def vd_943 : List (List (List (List Nat))) := [vd_943_0]
noncomputable def vt_943 : List (List am_I) := []
noncomputable def vc_943 : vm_C := (fun _ => vp_943, fun pc => [], [69], 1, vm_inst 8 1 vt_943 vf_943 vd_943)
theorem vx_943_0 : vm_chk bt_159 [] vk_943 14 vc_943 0 1 = true := by decide +kernel
theorem vy_943 : vm_ents 159 14 vc_943 ve_943 = true := by decide +kernel
theorem vw_943 : ∀ q ∈ vk_943, vm_wt 4 q := vm_wts (vm_kc (vm_up v_935 rfl) vm_kn) (by decide +kernel)
theorem v_943 : vm_at 5 q_943 := vm_ok (inl := []) (es := ve_943) bq_159 (by decide) vw_943 vy_943 (fun i => vm_hc vx_943_0 rfl (fun h => absurd h (Nat.not_lt_zero _))) _ List.mem_cons_self
noncomputable def vp_3503 : List vm_R := [(none, va_h168), (none, va_h344), (none, va_h343)]
noncomputable def ve_3503 : List vm_E := [([.inr (.inr (some 70)), .inl (.ofNat 2, .ofNat 2)], va_h167, 0, [0])]
noncomputable def q_3503 : vm_Q := (159, [.inr (.inr (some 70)), .inl (.ofNat 2, .ofNat 2)], va_h167, vp_3503)
noncomputable def vk_3503 : List vm_U := [(q_3495, false, [(7, 62, 6), (7, 62, 7)])]
noncomputable def vf_3503 : List ((Nat → am_I) → vm_A) := [fun v => (0, [(0, .inr (.inr (some 70))), (1, .inl (.ofNat 2, .ofNat 2))], [], (80, [(62, va_c52)]))]
noncomputable def vd_3503_0_0 : List (List Nat) := [[0]]
noncomputable def vd_3503_0 : List (List (List Nat)) := [vd_3503_0_0]
noncomputable def vd_3503 : List (List (List (List Nat))) := [vd_3503_0]
noncomputable def vt_3503 : List (List am_I) := []
noncomputable def vc_3503 : vm_C := (fun _ => vp_3503, fun pc => [], [69], 1, vm_inst 8 1 vt_3503 vf_3503 vd_3503)
theorem vx_3503_0 : vm_chk bt_159 [] vk_3503 14 vc_3503 0 1 = true := by decide +kernel
theorem vy_3503 : vm_ents 159 14 vc_3503 ve_3503 = true := by decide +kernel
theorem vw_3503 : ∀ q ∈ vk_3503, vm_wt 4 q := vm_wts (vm_kc (vm_up v_3495 rfl) vm_kn) (by decide +kernel)
theorem v_3503 : vm_at 5 q_3503 := vm_ok (inl := []) (es := ve_3503) bq_159 (by decide) vw_3503 vy_3503 (fun i => vm_hc vx_3503_0 rfl (fun h => absurd h (Nat.not_lt_zero _))) _ List.mem_cons_self
noncomputable def vp_F_rlo_2 (s : Nat) : List vm_R := [(none, (80, [(62, .inr (.inr (.inr (7, [.inr (.inr (some 71)), .inr (.inr (some 72)), .inl (.ofNat 2, .ofNat 5), .inl (.ofNat 2, .ofNat 5), .inl (.ofNat 0, .ofNat 5), .inr (.inr (some 73)), .inl (.ofNat 0, .ofNat 5), .inl (.ofNat 0, .ofNat 5), .inl (.ofNat 0, .ofNat 5), .inl am_top, .inl am_top, .inl am_top, .inr (.inr (some 74)), .inl (.ofNat 0, .ofNat 160), .inl (.ofNat 0, .ofNat 160), .inl (.ofNat 0, .ofNat 160), .inl (.ofNat 0, .ofNat 3), .inl am_top, .inl (.ofNat 1, .ofNat 6), .inl am_top, .inr (.inr (some 75)), .inr (.inr (some 76)), .inr (.inr (some 77)), .inr (.inr (some 78)), .inr (.inr (some 79)), .inr (.inr (some 80)), .inr (.inr (some 81)), .inl (.negSucc 0, .ofNat 6), .inr (.inr (some 82)), .inr (.inr (some 83)), .inr (.inr (some 84)), .inr (.inr (some 85)), .inr (.inr (some 86)), .inl am_top, .inr (.inr (some 87))]))))])), (none, (80, [(62, .inr (.inr (.inr (7, [.inr (.inr (some 71)), .inr (.inr (some 72)), .inl (.ofNat 2, .ofNat 5), .inl (.ofNat 2, .ofNat 5), .inl (.ofNat 0, .ofNat 5), .inr (.inr (some 73)), .inl (.ofNat 2, .ofNat 5), .inl (.ofNat 2, .ofNat 5), .inl (.ofNat 0, .ofNat 5), .inl am_top, .inl am_top, .inl am_top, .inr (.inr (some 74)), .inl (.ofNat 0, .ofNat 160), .inl (.ofNat (s + 1), .ofNat 160), .inl (.ofNat 0, .ofNat 160), .inl (.ofNat 1, .ofNat 3), .inl am_top, .inl (.ofNat 0, .ofNat 0), .inl am_top, .inr (.inr (some 75)), .inr (.inr (some 76)), .inr (.inr (some 77)), .inr (.inr (some 78)), .inr (.inr (some 79)), .inr (.inr (some 80)), .inr (.inr (some 81)), .inl (.negSucc 0, .ofNat 6), .inr (.inr (some 82)), .inr (.inr (some 83)), .inr (.inr (some 84)), .inr (.inr (some 85)), .inr (.inr (some 86)), .inl am_top, .inr (.inr (some 87))]))))])), (none, (80, [(62, .inr (.inr (.inr (7, [.inr (.inr (some 71)), .inr (.inr (some 72)), .inl (.ofNat 2, .ofNat 5), .inl (.ofNat 2, .ofNat 5), .inl (.ofNat 0, .ofNat 5), .inr (.inr (some 73)), .inl (.ofNat 2, .ofNat 5), .inl (.ofNat 2, .ofNat 5), .inl (.ofNat 0, .ofNat 5), .inl am_top, .inl am_top, .inl am_top, .inr (.inr (some 74)), .inl (.ofNat 0, .ofNat 160), .inl (.ofNat (s + 0), .ofNat 160), .inl (.ofNat 0, .ofNat 160), .inl (.ofNat 0, .ofNat 0), .inl am_top, .inl (.ofNat 0, .ofNat 0), .inl am_top, .inr (.inr (some 75)), .inr (.inr (some 76)), .inr (.inr (some 77)), .inr (.inr (some 78)), .inr (.inr (some 79)), .inr (.inr (some 80)), .inr (.inr (some 81)), .inl (.negSucc 0, .ofNat 6), .inr (.inr (some 82)), .inr (.inr (some 83)), .inr (.inr (some 84)), .inr (.inr (some 85)), .inr (.inr (some 86)), .inl am_top, .inr (.inr (some 87))]))))]))]
noncomputable def vk_F_rlo_2 (s : Nat) : List vm_U := [((q_F_rn_0_4 (s + 0)), false, [(7, 62, 6), (7, 62, 7)])]
noncomputable def vf_F_rlo_2 (s : Nat) : List ((Nat → am_I) → vm_A) := [fun v => (0, [(0, .inr (.inr (some 70))), (1, .inl (.ofNat 2, .ofNat 2))], [], (80, [(62, .inr (.inr (.inr (7, [.inr (.inr (some 71)), .inr (.inr (some 72)), .inl (.ofNat 2, .ofNat 5), .inl (.ofNat 2, .ofNat 5), .inl (.ofNat 0, .ofNat 5), .inr (.inr (some 73)), .inl (.ofNat 2, .ofNat 5), .inl (.ofNat 2, .ofNat 5), .inl (.ofNat 0, .ofNat 5), .inl am_top, .inl am_top, .inl am_top, .inr (.inr (some 74)), .inl (.ofNat 0, .ofNat 160), .inl (.ofNat (s + 0), .ofNat 160), .inl (.ofNat 0, .ofNat 160), .inl (.ofNat 0, .ofNat 3), .inl am_top, .inl (.ofNat 0, .ofNat 0), .inl am_top, .inr (.inr (some 75)), .inr (.inr (some 76)), .inr (.inr (some 77)), .inr (.inr (some 78)), .inr (.inr (some 79)), .inr (.inr (some 80)), .inr (.inr (some 81)), .inl (.negSucc 0, .ofNat 6), .inr (.inr (some 82)), .inr (.inr (some 83)), .inr (.inr (some 84)), .inr (.inr (some 85)), .inr (.inr (some 86)), .inl am_top, .inr (.inr (some 87))]))))]))]
noncomputable def vd_F_rlo_2_0_0 (s : Nat) : List (List Nat) := [[0]]
noncomputable def vd_F_rlo_2_0 (s : Nat) : List (List (List Nat)) := [vd_F_rlo_2_0_0 s]
noncomputable def vd_F_rlo_2 (s : Nat) : List (List (List (List Nat))) := [vd_F_rlo_2_0 s]
noncomputable def vt_F_rlo_2 (s : Nat) : List (List am_I) := []
noncomputable def vc_F_rlo_2 (s : Nat) : vm_C := (fun _ => vp_F_rlo_2 s, fun pc => [], [69], 1, vm_inst 8 1 (vt_F_rlo_2 s) (vf_F_rlo_2 s) (vd_F_rlo_2 s))
noncomputable def ve_F_rlo_2 (s : Nat) : List vm_E := [([.inr (.inr (some 70)), .inl (.ofNat 2, .ofNat 2)], (80, [(62, .inr (.inr (.inr (7, [.inr (.inr (some 71)), .inr (.inr (some 72)), .inl (.ofNat 2, .ofNat 5), .inl (.ofNat 2, .ofNat 5), .inl (.ofNat 0, .ofNat 5), .inr (.inr (some 73)), .inl (.ofNat 2, .ofNat 5), .inl (.ofNat 2, .ofNat 5), .inl (.ofNat 0, .ofNat 5), .inl am_top, .inl am_top, .inl am_top, .inr (.inr (some 74)), .inl (.ofNat 0, .ofNat 160), .inl (.ofNat (s + 0), .ofNat 160), .inl (.ofNat 0, .ofNat 160), .inl (.ofNat 0, .ofNat 3), .inl am_top, .inl (.ofNat 0, .ofNat 0), .inl am_top, .inr (.inr (some 75)), .inr (.inr (some 76)), .inr (.inr (some 77)), .inr (.inr (some 78)), .inr (.inr (some 79)), .inr (.inr (some 80)), .inr (.inr (some 81)), .inl (.negSucc 0, .ofNat 6), .inr (.inr (some 82)), .inr (.inr (some 83)), .inr (.inr (some 84)), .inr (.inr (some 85)), .inr (.inr (some 86)), .inl am_top, .inr (.inr (some 87))]))))]), 0, [0])]
noncomputable def q_F_rlo_2 (s : Nat) : vm_Q := (159, [.inr (.inr (some 70)), .inl (.ofNat 2, .ofNat 2)], (80, [(62, .inr (.inr (.inr (7, [.inr (.inr (some 71)), .inr (.inr (some 72)), .inl (.ofNat 2, .ofNat 5), .inl (.ofNat 2, .ofNat 5), .inl (.ofNat 0, .ofNat 5), .inr (.inr (some 73)), .inl (.ofNat 2, .ofNat 5), .inl (.ofNat 2, .ofNat 5), .inl (.ofNat 0, .ofNat 5), .inl am_top, .inl am_top, .inl am_top, .inr (.inr (some 74)), .inl (.ofNat 0, .ofNat 160), .inl (.ofNat (s + 0), .ofNat 160), .inl (.ofNat 0, .ofNat 160), .inl (.ofNat 0, .ofNat 3), .inl am_top, .inl (.ofNat 0, .ofNat 0), .inl am_top, .inr (.inr (some 75)), .inr (.inr (some 76)), .inr (.inr (some 77)), .inr (.inr (some 78)), .inr (.inr (some 79)), .inr (.inr (some 80)), .inr (.inr (some 81)), .inl (.negSucc 0, .ofNat 6), .inr (.inr (some 82)), .inr (.inr (some 83)), .inr (.inr (some 84)), .inr (.inr (some 85)), .inr (.inr (some 86)), .inl am_top, .inr (.inr (some 87))]))))]), vp_F_rlo_2 s)
theorem vx_F_rlo_2_0 : vm_rng (fun s => vm_chk bt_159 [] (vk_F_rlo_2 s) 14 (vc_F_rlo_2 s) 0 1 && (vm_ents 159 14 (vc_F_rlo_2 s) (ve_F_rlo_2 s) && vm_kok (vk_F_rlo_2 s))) 1 11 = true := by decide +kernel
theorem vx_F_rlo_2_1 : vm_rng (fun s => vm_chk bt_159 [] (vk_F_rlo_2 s) 14 (vc_F_rlo_2 s) 0 1 && (vm_ents 159 14 (vc_F_rlo_2 s) (ve_F_rlo_2 s) && vm_kok (vk_F_rlo_2 s))) 12 11 = true := by decide +kernel
theorem vx_F_rlo_2_2 : vm_rng (fun s => vm_chk bt_159 [] (vk_F_rlo_2 s) 14 (vc_F_rlo_2 s) 0 1 && (vm_ents 159 14 (vc_F_rlo_2 s) (ve_F_rlo_2 s) && vm_kok (vk_F_rlo_2 s))) 23 11 = true := by decide +kernel
theorem vx_F_rlo_2_3 : vm_rng (fun s => vm_chk bt_159 [] (vk_F_rlo_2 s) 14 (vc_F_rlo_2 s) 0 1 && (vm_ents 159 14 (vc_F_rlo_2 s) (ve_F_rlo_2 s) && vm_kok (vk_F_rlo_2 s))) 34 11 = true := by decide +kernel
theorem vx_F_rlo_2_4 : vm_rng (fun s => vm_chk bt_159 [] (vk_F_rlo_2 s) 14 (vc_F_rlo_2 s) 0 1 && (vm_ents 159 14 (vc_F_rlo_2 s) (ve_F_rlo_2 s) && vm_kok (vk_F_rlo_2 s))) 45 11 = true := by decide +kernel
theorem vx_F_rlo_2_5 : vm_rng (fun s => vm_chk bt_159 [] (vk_F_rlo_2 s) 14 (vc_F_rlo_2 s) 0 1 && (vm_ents 159 14 (vc_F_rlo_2 s) (ve_F_rlo_2 s) && vm_kok (vk_F_rlo_2 s))) 56 11 = true := by decide +kernel
theorem vx_F_rlo_2_6 : vm_rng (fun s => vm_chk bt_159 [] (vk_F_rlo_2 s) 14 (vc_F_rlo_2 s) 0 1 && (vm_ents 159 14 (vc_F_rlo_2 s) (ve_F_rlo_2 s) && vm_kok (vk_F_rlo_2 s))) 67 11 = true := by decide +kernel
theorem vx_F_rlo_2_7 : vm_rng (fun s => vm_chk bt_159 [] (vk_F_rlo_2 s) 14 (vc_F_rlo_2 s) 0 1 && (vm_ents 159 14 (vc_F_rlo_2 s) (ve_F_rlo_2 s) && vm_kok (vk_F_rlo_2 s))) 78 11 = true := by decide +kernel
theorem vx_F_rlo_2_8 : vm_rng (fun s => vm_chk bt_159 [] (vk_F_rlo_2 s) 14 (vc_F_rlo_2 s) 0 1 && (vm_ents 159 14 (vc_F_rlo_2 s) (ve_F_rlo_2 s) && vm_kok (vk_F_rlo_2 s))) 89 11 = true := by decide +kernel
theorem vx_F_rlo_2_9 : vm_rng (fun s => vm_chk bt_159 [] (vk_F_rlo_2 s) 14 (vc_F_rlo_2 s) 0 1 && (vm_ents 159 14 (vc_F_rlo_2 s) (ve_F_rlo_2 s) && vm_kok (vk_F_rlo_2 s))) 100 11 = true := by decide +kernel
theorem vx_F_rlo_2_10 : vm_rng (fun s => vm_chk bt_159 [] (vk_F_rlo_2 s) 14 (vc_F_rlo_2 s) 0 1 && (vm_ents 159 14 (vc_F_rlo_2 s) (ve_F_rlo_2 s) && vm_kok (vk_F_rlo_2 s))) 111 11 = true := by decide +kernel
theorem vx_F_rlo_2_11 : vm_rng (fun s => vm_chk bt_159 [] (vk_F_rlo_2 s) 14 (vc_F_rlo_2 s) 0 1 && (vm_ents 159 14 (vc_F_rlo_2 s) (ve_F_rlo_2 s) && vm_kok (vk_F_rlo_2 s))) 122 11 = true := by decide +kernel
theorem vx_F_rlo_2_12 : vm_rng (fun s => vm_chk bt_159 [] (vk_F_rlo_2 s) 14 (vc_F_rlo_2 s) 0 1 && (vm_ents 159 14 (vc_F_rlo_2 s) (ve_F_rlo_2 s) && vm_kok (vk_F_rlo_2 s))) 133 11 = true := by decide +kernel
theorem vx_F_rlo_2_13 : vm_rng (fun s => vm_chk bt_159 [] (vk_F_rlo_2 s) 14 (vc_F_rlo_2 s) 0 1 && (vm_ents 159 14 (vc_F_rlo_2 s) (ve_F_rlo_2 s) && vm_kok (vk_F_rlo_2 s))) 144 11 = true := by decide +kernel
theorem vx_F_rlo_2_14 : vm_rng (fun s => vm_chk bt_159 [] (vk_F_rlo_2 s) 14 (vc_F_rlo_2 s) 0 1 && (vm_ents 159 14 (vc_F_rlo_2 s) (ve_F_rlo_2 s) && vm_kok (vk_F_rlo_2 s))) 155 5 = true := by decide +kernel
set_option maxRecDepth 20000 in
theorem vz_F_rlo_2 (s : Nat) (h1 : 1 ≤ s) (h2 : s < 160) : (vm_chk bt_159 [] (vk_F_rlo_2 s) 14 (vc_F_rlo_2 s) 0 1 && (vm_ents 159 14 (vc_F_rlo_2 s) (ve_F_rlo_2 s) && vm_kok (vk_F_rlo_2 s))) = true := by
  by_cases g0 : s < 12
  · exact vm_rng_ok vx_F_rlo_2_0 s (by omega) (by omega)
  by_cases g1 : s < 23
  · exact vm_rng_ok vx_F_rlo_2_1 s (by omega) (by omega)
  by_cases g2 : s < 34
  · exact vm_rng_ok vx_F_rlo_2_2 s (by omega) (by omega)
  by_cases g3 : s < 45
  · exact vm_rng_ok vx_F_rlo_2_3 s (by omega) (by omega)
  by_cases g4 : s < 56
  · exact vm_rng_ok vx_F_rlo_2_4 s (by omega) (by omega)
  by_cases g5 : s < 67
  · exact vm_rng_ok vx_F_rlo_2_5 s (by omega) (by omega)
  by_cases g6 : s < 78
  · exact vm_rng_ok vx_F_rlo_2_6 s (by omega) (by omega)
  by_cases g7 : s < 89
  · exact vm_rng_ok vx_F_rlo_2_7 s (by omega) (by omega)
  by_cases g8 : s < 100
  · exact vm_rng_ok vx_F_rlo_2_8 s (by omega) (by omega)
  by_cases g9 : s < 111
  · exact vm_rng_ok vx_F_rlo_2_9 s (by omega) (by omega)
  by_cases g10 : s < 122
  · exact vm_rng_ok vx_F_rlo_2_10 s (by omega) (by omega)
  by_cases g11 : s < 133
  · exact vm_rng_ok vx_F_rlo_2_11 s (by omega) (by omega)
  by_cases g12 : s < 144
  · exact vm_rng_ok vx_F_rlo_2_12 s (by omega) (by omega)
  by_cases g13 : s < 155
  · exact vm_rng_ok vx_F_rlo_2_13 s (by omega) (by omega)
  exact vm_rng_ok vx_F_rlo_2_14 s (by omega) (by omega)
theorem v_F_rlo_2 (s : Nat) (h1 : 1 ≤ s) (h2 : s < 160) : vm_at 5 (q_F_rlo_2 s) := by
  have h := vz_F_rlo_2 s h1 h2
  rw [Bool.and_eq_true, Bool.and_eq_true] at h
  exact vm_ok (inl := []) (es := ve_F_rlo_2 s) bq_159 (by decide) (vm_wts (L := 4) (vm_kc (vm_up (v_F_rn_0_4 (s + 0) (by omega) (by omega)) rfl) vm_kn) h.2.2) h.2.1 (fun i => vm_hc h.1 rfl (fun h => absurd h (Nat.not_lt_zero _))) _ List.mem_cons_self
noncomputable def vp_944 : List vm_R := [(none, va_h342), (none, va_h168)]
noncomputable def ve_944 : List vm_E := [([.inr (.inr (some 70)), .inl (.ofNat 3, .ofNat 3)], va_h340, 0, [0])]
noncomputable def q_944 : vm_Q := (159, [.inr (.inr (some 70)), .inl (.ofNat 3, .ofNat 3)], va_h340, vp_944)
noncomputable def vk_944 : List vm_U := [(q_938, false, [(7, 62, 6), (7, 62, 7)])]
noncomputable def vf_944 : List ((Nat → am_I) → vm_A) := [fun v => (0, [(0, .inr (.inr (some 70))), (1, .inl (.ofNat 3, .ofNat 3))], [], (80, [(62, va_c225)]))]
noncomputable def vd_944_0_0 : List (List Nat) := [[0]]
noncomputable def vd_944_0 : List (List (List Nat)) := [vd_944_0_0]
noncomputable def vd_944 : List (List (List (List Nat))) := [vd_944_0]
noncomputable def vt_944 : List (List am_I) := []
noncomputable def vc_944 : vm_C := (fun _ => vp_944, fun pc => [], [69], 1, vm_inst 8 1 vt_944 vf_944 vd_944)
theorem vx_944_0 : vm_chk bt_159 [] vk_944 23 vc_944 0 1 = true := by decide +kernel
theorem vy_944 : vm_ents 159 23 vc_944 ve_944 = true := by decide +kernel
theorem vw_944 : ∀ q ∈ vk_944, vm_wt 4 q := vm_wts (vm_kc (vm_up v_938 rfl) vm_kn) (by decide +kernel)
theorem v_944 : vm_at 5 q_944 := vm_ok (inl := []) (es := ve_944) bq_159 (by decide) vw_944 vy_944 (fun i => vm_hc vx_944_0 rfl (fun h => absurd h (Nat.not_lt_zero _))) _ List.mem_cons_self
noncomputable def vp_3504 : List vm_R := [(none, va_h343), (none, va_h344), (none, va_h168)]
noncomputable def ve_3504 : List vm_E := [([.inr (.inr (some 70)), .inl (.ofNat 3, .ofNat 3)], va_h167, 0, [0])]
noncomputable def q_3504 : vm_Q := (159, [.inr (.inr (some 70)), .inl (.ofNat 3, .ofNat 3)], va_h167, vp_3504)
noncomputable def vk_3504 : List vm_U := [(q_3498, false, [(7, 62, 6), (7, 62, 7)])]
noncomputable def vf_3504 : List ((Nat → am_I) → vm_A) := [fun v => (0, [(0, .inr (.inr (some 70))), (1, .inl (.ofNat 3, .ofNat 3))], [], (80, [(62, va_c52)]))]
noncomputable def vd_3504_0_0 : List (List Nat) := [[0]]
noncomputable def vd_3504_0 : List (List (List Nat)) := [vd_3504_0_0]
noncomputable def vd_3504 : List (List (List (List Nat))) := [vd_3504_0]
noncomputable def vt_3504 : List (List am_I) := []
noncomputable def vc_3504 : vm_C := (fun _ => vp_3504, fun pc => [], [69], 1, vm_inst 8 1 vt_3504 vf_3504 vd_3504)
theorem vx_3504_0 : vm_chk bt_159 [] vk_3504 23 vc_3504 0 1 = true := by decide +kernel
theorem vy_3504 : vm_ents 159 23 vc_3504 ve_3504 = true := by decide +kernel
theorem vw_3504 : ∀ q ∈ vk_3504, vm_wt 4 q := vm_wts (vm_kc (vm_up v_3498 rfl) vm_kn) (by decide +kernel)
theorem v_3504 : vm_at 5 q_3504 := vm_ok (inl := []) (es := ve_3504) bq_159 (by decide) vw_3504 vy_3504 (fun i => vm_hc vx_3504_0 rfl (fun h => absurd h (Nat.not_lt_zero _))) _ List.mem_cons_self
noncomputable def vp_F_rlo_3 (s : Nat) : List vm_R := [(none, (80, [(62, .inr (.inr (.inr (7, [.inr (.inr (some 71)), .inr (.inr (some 72)), .inl (.ofNat 2, .ofNat 5), .inl (.ofNat 2, .ofNat 5), .inl (.ofNat 0, .ofNat 5), .inr (.inr (some 73)), .inl (.ofNat 2, .ofNat 5), .inl (.ofNat 2, .ofNat 5), .inl (.ofNat 0, .ofNat 5), .inl am_top, .inl am_top, .inl am_top, .inr (.inr (some 74)), .inl (.ofNat 0, .ofNat 160), .inl (.ofNat (s + 0), .ofNat 160), .inl (.ofNat 0, .ofNat 160), .inl (.ofNat 0, .ofNat 0), .inl am_top, .inl (.ofNat 0, .ofNat 0), .inl am_top, .inr (.inr (some 75)), .inr (.inr (some 76)), .inr (.inr (some 77)), .inr (.inr (some 78)), .inr (.inr (some 79)), .inr (.inr (some 80)), .inr (.inr (some 81)), .inl (.negSucc 0, .ofNat 6), .inr (.inr (some 82)), .inr (.inr (some 83)), .inr (.inr (some 84)), .inr (.inr (some 85)), .inr (.inr (some 86)), .inl am_top, .inr (.inr (some 87))]))))])), (none, (80, [(62, .inr (.inr (.inr (7, [.inr (.inr (some 71)), .inr (.inr (some 72)), .inl (.ofNat 2, .ofNat 5), .inl (.ofNat 2, .ofNat 5), .inl (.ofNat 0, .ofNat 5), .inr (.inr (some 73)), .inl (.ofNat 2, .ofNat 5), .inl (.ofNat 2, .ofNat 5), .inl (.ofNat 0, .ofNat 5), .inl am_top, .inl am_top, .inl am_top, .inr (.inr (some 74)), .inl (.ofNat 0, .ofNat 160), .inl (.ofNat (s + 1), .ofNat 160), .inl (.ofNat 0, .ofNat 160), .inl (.ofNat 1, .ofNat 3), .inl am_top, .inl (.ofNat 0, .ofNat 0), .inl am_top, .inr (.inr (some 75)), .inr (.inr (some 76)), .inr (.inr (some 77)), .inr (.inr (some 78)), .inr (.inr (some 79)), .inr (.inr (some 80)), .inr (.inr (some 81)), .inl (.negSucc 0, .ofNat 6), .inr (.inr (some 82)), .inr (.inr (some 83)), .inr (.inr (some 84)), .inr (.inr (some 85)), .inr (.inr (some 86)), .inl am_top, .inr (.inr (some 87))]))))])), (none, (80, [(62, .inr (.inr (.inr (7, [.inr (.inr (some 71)), .inr (.inr (some 72)), .inl (.ofNat 2, .ofNat 5), .inl (.ofNat 2, .ofNat 5), .inl (.ofNat 0, .ofNat 5), .inr (.inr (some 73)), .inl (.ofNat 0, .ofNat 5), .inl (.ofNat 0, .ofNat 5), .inl (.ofNat 0, .ofNat 5), .inl am_top, .inl am_top, .inl am_top, .inr (.inr (some 74)), .inl (.ofNat 0, .ofNat 160), .inl (.ofNat 0, .ofNat 160), .inl (.ofNat 0, .ofNat 160), .inl (.ofNat 0, .ofNat 3), .inl am_top, .inl (.ofNat 1, .ofNat 6), .inl am_top, .inr (.inr (some 75)), .inr (.inr (some 76)), .inr (.inr (some 77)), .inr (.inr (some 78)), .inr (.inr (some 79)), .inr (.inr (some 80)), .inr (.inr (some 81)), .inl (.negSucc 0, .ofNat 6), .inr (.inr (some 82)), .inr (.inr (some 83)), .inr (.inr (some 84)), .inr (.inr (some 85)), .inr (.inr (some 86)), .inl am_top, .inr (.inr (some 87))]))))]))]
noncomputable def vk_F_rlo_3 (s : Nat) : List vm_U := [((q_F_readFree (s + 0)), false, [(7, 62, 6), (7, 62, 7)])]
noncomputable def vf_F_rlo_3 (s : Nat) : List ((Nat → am_I) → vm_A) := [fun v => (0, [(0, .inr (.inr (some 70))), (1, .inl (.ofNat 3, .ofNat 3))], [], (80, [(62, .inr (.inr (.inr (7, [.inr (.inr (some 71)), .inr (.inr (some 72)), .inl (.ofNat 2, .ofNat 5), .inl (.ofNat 2, .ofNat 5), .inl (.ofNat 0, .ofNat 5), .inr (.inr (some 73)), .inl (.ofNat 2, .ofNat 5), .inl (.ofNat 2, .ofNat 5), .inl (.ofNat 0, .ofNat 5), .inl am_top, .inl am_top, .inl am_top, .inr (.inr (some 74)), .inl (.ofNat 0, .ofNat 160), .inl (.ofNat (s + 0), .ofNat 160), .inl (.ofNat 0, .ofNat 160), .inl (.ofNat 0, .ofNat 3), .inl am_top, .inl (.ofNat 0, .ofNat 0), .inl am_top, .inr (.inr (some 75)), .inr (.inr (some 76)), .inr (.inr (some 77)), .inr (.inr (some 78)), .inr (.inr (some 79)), .inr (.inr (some 80)), .inr (.inr (some 81)), .inl (.negSucc 0, .ofNat 6), .inr (.inr (some 82)), .inr (.inr (some 83)), .inr (.inr (some 84)), .inr (.inr (some 85)), .inr (.inr (some 86)), .inl am_top, .inr (.inr (some 87))]))))]))]
noncomputable def vd_F_rlo_3_0_0 (s : Nat) : List (List Nat) := [[0]]
noncomputable def vd_F_rlo_3_0 (s : Nat) : List (List (List Nat)) := [vd_F_rlo_3_0_0 s]
noncomputable def vd_F_rlo_3 (s : Nat) : List (List (List (List Nat))) := [vd_F_rlo_3_0 s]
noncomputable def vt_F_rlo_3 (s : Nat) : List (List am_I) := []
noncomputable def vc_F_rlo_3 (s : Nat) : vm_C := (fun _ => vp_F_rlo_3 s, fun pc => [], [69], 1, vm_inst 8 1 (vt_F_rlo_3 s) (vf_F_rlo_3 s) (vd_F_rlo_3 s))
noncomputable def ve_F_rlo_3 (s : Nat) : List vm_E := [([.inr (.inr (some 70)), .inl (.ofNat 3, .ofNat 3)], (80, [(62, .inr (.inr (.inr (7, [.inr (.inr (some 71)), .inr (.inr (some 72)), .inl (.ofNat 2, .ofNat 5), .inl (.ofNat 2, .ofNat 5), .inl (.ofNat 0, .ofNat 5), .inr (.inr (some 73)), .inl (.ofNat 2, .ofNat 5), .inl (.ofNat 2, .ofNat 5), .inl (.ofNat 0, .ofNat 5), .inl am_top, .inl am_top, .inl am_top, .inr (.inr (some 74)), .inl (.ofNat 0, .ofNat 160), .inl (.ofNat (s + 0), .ofNat 160), .inl (.ofNat 0, .ofNat 160), .inl (.ofNat 0, .ofNat 3), .inl am_top, .inl (.ofNat 0, .ofNat 0), .inl am_top, .inr (.inr (some 75)), .inr (.inr (some 76)), .inr (.inr (some 77)), .inr (.inr (some 78)), .inr (.inr (some 79)), .inr (.inr (some 80)), .inr (.inr (some 81)), .inl (.negSucc 0, .ofNat 6), .inr (.inr (some 82)), .inr (.inr (some 83)), .inr (.inr (some 84)), .inr (.inr (some 85)), .inr (.inr (some 86)), .inl am_top, .inr (.inr (some 87))]))))]), 0, [0])]
noncomputable def q_F_rlo_3 (s : Nat) : vm_Q := (159, [.inr (.inr (some 70)), .inl (.ofNat 3, .ofNat 3)], (80, [(62, .inr (.inr (.inr (7, [.inr (.inr (some 71)), .inr (.inr (some 72)), .inl (.ofNat 2, .ofNat 5), .inl (.ofNat 2, .ofNat 5), .inl (.ofNat 0, .ofNat 5), .inr (.inr (some 73)), .inl (.ofNat 2, .ofNat 5), .inl (.ofNat 2, .ofNat 5), .inl (.ofNat 0, .ofNat 5), .inl am_top, .inl am_top, .inl am_top, .inr (.inr (some 74)), .inl (.ofNat 0, .ofNat 160), .inl (.ofNat (s + 0), .ofNat 160), .inl (.ofNat 0, .ofNat 160), .inl (.ofNat 0, .ofNat 3), .inl am_top, .inl (.ofNat 0, .ofNat 0), .inl am_top, .inr (.inr (some 75)), .inr (.inr (some 76)), .inr (.inr (some 77)), .inr (.inr (some 78)), .inr (.inr (some 79)), .inr (.inr (some 80)), .inr (.inr (some 81)), .inl (.negSucc 0, .ofNat 6), .inr (.inr (some 82)), .inr (.inr (some 83)), .inr (.inr (some 84)), .inr (.inr (some 85)), .inr (.inr (some 86)), .inl am_top, .inr (.inr (some 87))]))))]), vp_F_rlo_3 s)
theorem vx_F_rlo_3_0 : vm_rng (fun s => vm_chk bt_159 [] (vk_F_rlo_3 s) 23 (vc_F_rlo_3 s) 0 1 && (vm_ents 159 23 (vc_F_rlo_3 s) (ve_F_rlo_3 s) && vm_kok (vk_F_rlo_3 s))) 1 5 = true := by decide +kernel
theorem vx_F_rlo_3_1 : vm_rng (fun s => vm_chk bt_159 [] (vk_F_rlo_3 s) 23 (vc_F_rlo_3 s) 0 1 && (vm_ents 159 23 (vc_F_rlo_3 s) (ve_F_rlo_3 s) && vm_kok (vk_F_rlo_3 s))) 6 5 = true := by decide +kernel
theorem vx_F_rlo_3_2 : vm_rng (fun s => vm_chk bt_159 [] (vk_F_rlo_3 s) 23 (vc_F_rlo_3 s) 0 1 && (vm_ents 159 23 (vc_F_rlo_3 s) (ve_F_rlo_3 s) && vm_kok (vk_F_rlo_3 s))) 11 5 = true := by decide +kernel
theorem vx_F_rlo_3_3 : vm_rng (fun s => vm_chk bt_159 [] (vk_F_rlo_3 s) 23 (vc_F_rlo_3 s) 0 1 && (vm_ents 159 23 (vc_F_rlo_3 s) (ve_F_rlo_3 s) && vm_kok (vk_F_rlo_3 s))) 16 5 = true := by decide +kernel
theorem vx_F_rlo_3_4 : vm_rng (fun s => vm_chk bt_159 [] (vk_F_rlo_3 s) 23 (vc_F_rlo_3 s) 0 1 && (vm_ents 159 23 (vc_F_rlo_3 s) (ve_F_rlo_3 s) && vm_kok (vk_F_rlo_3 s))) 21 5 = true := by decide +kernel
theorem vx_F_rlo_3_5 : vm_rng (fun s => vm_chk bt_159 [] (vk_F_rlo_3 s) 23 (vc_F_rlo_3 s) 0 1 && (vm_ents 159 23 (vc_F_rlo_3 s) (ve_F_rlo_3 s) && vm_kok (vk_F_rlo_3 s))) 26 5 = true := by decide +kernel
theorem vx_F_rlo_3_6 : vm_rng (fun s => vm_chk bt_159 [] (vk_F_rlo_3 s) 23 (vc_F_rlo_3 s) 0 1 && (vm_ents 159 23 (vc_F_rlo_3 s) (ve_F_rlo_3 s) && vm_kok (vk_F_rlo_3 s))) 31 5 = true := by decide +kernel
theorem vx_F_rlo_3_7 : vm_rng (fun s => vm_chk bt_159 [] (vk_F_rlo_3 s) 23 (vc_F_rlo_3 s) 0 1 && (vm_ents 159 23 (vc_F_rlo_3 s) (ve_F_rlo_3 s) && vm_kok (vk_F_rlo_3 s))) 36 5 = true := by decide +kernel
theorem vx_F_rlo_3_8 : vm_rng (fun s => vm_chk bt_159 [] (vk_F_rlo_3 s) 23 (vc_F_rlo_3 s) 0 1 && (vm_ents 159 23 (vc_F_rlo_3 s) (ve_F_rlo_3 s) && vm_kok (vk_F_rlo_3 s))) 41 5 = true := by decide +kernel
theorem vx_F_rlo_3_9 : vm_rng (fun s => vm_chk bt_159 [] (vk_F_rlo_3 s) 23 (vc_F_rlo_3 s) 0 1 && (vm_ents 159 23 (vc_F_rlo_3 s) (ve_F_rlo_3 s) && vm_kok (vk_F_rlo_3 s))) 46 5 = true := by decide +kernel
theorem vx_F_rlo_3_10 : vm_rng (fun s => vm_chk bt_159 [] (vk_F_rlo_3 s) 23 (vc_F_rlo_3 s) 0 1 && (vm_ents 159 23 (vc_F_rlo_3 s) (ve_F_rlo_3 s) && vm_kok (vk_F_rlo_3 s))) 51 5 = true := by decide +kernel
theorem vx_F_rlo_3_11 : vm_rng (fun s => vm_chk bt_159 [] (vk_F_rlo_3 s) 23 (vc_F_rlo_3 s) 0 1 && (vm_ents 159 23 (vc_F_rlo_3 s) (ve_F_rlo_3 s) && vm_kok (vk_F_rlo_3 s))) 56 5 = true := by decide +kernel
theorem vx_F_rlo_3_12 : vm_rng (fun s => vm_chk bt_159 [] (vk_F_rlo_3 s) 23 (vc_F_rlo_3 s) 0 1 && (vm_ents 159 23 (vc_F_rlo_3 s) (ve_F_rlo_3 s) && vm_kok (vk_F_rlo_3 s))) 61 5 = true := by decide +kernel
theorem vx_F_rlo_3_13 : vm_rng (fun s => vm_chk bt_159 [] (vk_F_rlo_3 s) 23 (vc_F_rlo_3 s) 0 1 && (vm_ents 159 23 (vc_F_rlo_3 s) (ve_F_rlo_3 s) && vm_kok (vk_F_rlo_3 s))) 66 5 = true := by decide +kernel
theorem vx_F_rlo_3_14 : vm_rng (fun s => vm_chk bt_159 [] (vk_F_rlo_3 s) 23 (vc_F_rlo_3 s) 0 1 && (vm_ents 159 23 (vc_F_rlo_3 s) (ve_F_rlo_3 s) && vm_kok (vk_F_rlo_3 s))) 71 5 = true := by decide +kernel
theorem vx_F_rlo_3_15 : vm_rng (fun s => vm_chk bt_159 [] (vk_F_rlo_3 s) 23 (vc_F_rlo_3 s) 0 1 && (vm_ents 159 23 (vc_F_rlo_3 s) (ve_F_rlo_3 s) && vm_kok (vk_F_rlo_3 s))) 76 5 = true := by decide +kernel
theorem vx_F_rlo_3_16 : vm_rng (fun s => vm_chk bt_159 [] (vk_F_rlo_3 s) 23 (vc_F_rlo_3 s) 0 1 && (vm_ents 159 23 (vc_F_rlo_3 s) (ve_F_rlo_3 s) && vm_kok (vk_F_rlo_3 s))) 81 5 = true := by decide +kernel
theorem vx_F_rlo_3_17 : vm_rng (fun s => vm_chk bt_159 [] (vk_F_rlo_3 s) 23 (vc_F_rlo_3 s) 0 1 && (vm_ents 159 23 (vc_F_rlo_3 s) (ve_F_rlo_3 s) && vm_kok (vk_F_rlo_3 s))) 86 5 = true := by decide +kernel
theorem vx_F_rlo_3_18 : vm_rng (fun s => vm_chk bt_159 [] (vk_F_rlo_3 s) 23 (vc_F_rlo_3 s) 0 1 && (vm_ents 159 23 (vc_F_rlo_3 s) (ve_F_rlo_3 s) && vm_kok (vk_F_rlo_3 s))) 91 5 = true := by decide +kernel
theorem vx_F_rlo_3_19 : vm_rng (fun s => vm_chk bt_159 [] (vk_F_rlo_3 s) 23 (vc_F_rlo_3 s) 0 1 && (vm_ents 159 23 (vc_F_rlo_3 s) (ve_F_rlo_3 s) && vm_kok (vk_F_rlo_3 s))) 96 5 = true := by decide +kernel
theorem vx_F_rlo_3_20 : vm_rng (fun s => vm_chk bt_159 [] (vk_F_rlo_3 s) 23 (vc_F_rlo_3 s) 0 1 && (vm_ents 159 23 (vc_F_rlo_3 s) (ve_F_rlo_3 s) && vm_kok (vk_F_rlo_3 s))) 101 5 = true := by decide +kernel
theorem vx_F_rlo_3_21 : vm_rng (fun s => vm_chk bt_159 [] (vk_F_rlo_3 s) 23 (vc_F_rlo_3 s) 0 1 && (vm_ents 159 23 (vc_F_rlo_3 s) (ve_F_rlo_3 s) && vm_kok (vk_F_rlo_3 s))) 106 5 = true := by decide +kernel
theorem vx_F_rlo_3_22 : vm_rng (fun s => vm_chk bt_159 [] (vk_F_rlo_3 s) 23 (vc_F_rlo_3 s) 0 1 && (vm_ents 159 23 (vc_F_rlo_3 s) (ve_F_rlo_3 s) && vm_kok (vk_F_rlo_3 s))) 111 5 = true := by decide +kernel
theorem vx_F_rlo_3_23 : vm_rng (fun s => vm_chk bt_159 [] (vk_F_rlo_3 s) 23 (vc_F_rlo_3 s) 0 1 && (vm_ents 159 23 (vc_F_rlo_3 s) (ve_F_rlo_3 s) && vm_kok (vk_F_rlo_3 s))) 116 5 = true := by decide +kernel
theorem vx_F_rlo_3_24 : vm_rng (fun s => vm_chk bt_159 [] (vk_F_rlo_3 s) 23 (vc_F_rlo_3 s) 0 1 && (vm_ents 159 23 (vc_F_rlo_3 s) (ve_F_rlo_3 s) && vm_kok (vk_F_rlo_3 s))) 121 5 = true := by decide +kernel
theorem vx_F_rlo_3_25 : vm_rng (fun s => vm_chk bt_159 [] (vk_F_rlo_3 s) 23 (vc_F_rlo_3 s) 0 1 && (vm_ents 159 23 (vc_F_rlo_3 s) (ve_F_rlo_3 s) && vm_kok (vk_F_rlo_3 s))) 126 5 = true := by decide +kernel
theorem vx_F_rlo_3_26 : vm_rng (fun s => vm_chk bt_159 [] (vk_F_rlo_3 s) 23 (vc_F_rlo_3 s) 0 1 && (vm_ents 159 23 (vc_F_rlo_3 s) (ve_F_rlo_3 s) && vm_kok (vk_F_rlo_3 s))) 131 5 = true := by decide +kernel
theorem vx_F_rlo_3_27 : vm_rng (fun s => vm_chk bt_159 [] (vk_F_rlo_3 s) 23 (vc_F_rlo_3 s) 0 1 && (vm_ents 159 23 (vc_F_rlo_3 s) (ve_F_rlo_3 s) && vm_kok (vk_F_rlo_3 s))) 136 5 = true := by decide +kernel
theorem vx_F_rlo_3_28 : vm_rng (fun s => vm_chk bt_159 [] (vk_F_rlo_3 s) 23 (vc_F_rlo_3 s) 0 1 && (vm_ents 159 23 (vc_F_rlo_3 s) (ve_F_rlo_3 s) && vm_kok (vk_F_rlo_3 s))) 141 5 = true := by decide +kernel
theorem vx_F_rlo_3_29 : vm_rng (fun s => vm_chk bt_159 [] (vk_F_rlo_3 s) 23 (vc_F_rlo_3 s) 0 1 && (vm_ents 159 23 (vc_F_rlo_3 s) (ve_F_rlo_3 s) && vm_kok (vk_F_rlo_3 s))) 146 5 = true := by decide +kernel
theorem vx_F_rlo_3_30 : vm_rng (fun s => vm_chk bt_159 [] (vk_F_rlo_3 s) 23 (vc_F_rlo_3 s) 0 1 && (vm_ents 159 23 (vc_F_rlo_3 s) (ve_F_rlo_3 s) && vm_kok (vk_F_rlo_3 s))) 151 5 = true := by decide +kernel
theorem vx_F_rlo_3_31 : vm_rng (fun s => vm_chk bt_159 [] (vk_F_rlo_3 s) 23 (vc_F_rlo_3 s) 0 1 && (vm_ents 159 23 (vc_F_rlo_3 s) (ve_F_rlo_3 s) && vm_kok (vk_F_rlo_3 s))) 156 4 = true := by decide +kernel
set_option maxRecDepth 20000 in
theorem vz_F_rlo_3 (s : Nat) (h1 : 1 ≤ s) (h2 : s < 160) : (vm_chk bt_159 [] (vk_F_rlo_3 s) 23 (vc_F_rlo_3 s) 0 1 && (vm_ents 159 23 (vc_F_rlo_3 s) (ve_F_rlo_3 s) && vm_kok (vk_F_rlo_3 s))) = true := by
  by_cases g0 : s < 6
  · exact vm_rng_ok vx_F_rlo_3_0 s (by omega) (by omega)
  by_cases g1 : s < 11
  · exact vm_rng_ok vx_F_rlo_3_1 s (by omega) (by omega)
  by_cases g2 : s < 16
  · exact vm_rng_ok vx_F_rlo_3_2 s (by omega) (by omega)
  by_cases g3 : s < 21
  · exact vm_rng_ok vx_F_rlo_3_3 s (by omega) (by omega)
  by_cases g4 : s < 26
  · exact vm_rng_ok vx_F_rlo_3_4 s (by omega) (by omega)
  by_cases g5 : s < 31
  · exact vm_rng_ok vx_F_rlo_3_5 s (by omega) (by omega)
  by_cases g6 : s < 36
  · exact vm_rng_ok vx_F_rlo_3_6 s (by omega) (by omega)
  by_cases g7 : s < 41
  · exact vm_rng_ok vx_F_rlo_3_7 s (by omega) (by omega)
  by_cases g8 : s < 46
  · exact vm_rng_ok vx_F_rlo_3_8 s (by omega) (by omega)
  by_cases g9 : s < 51
  · exact vm_rng_ok vx_F_rlo_3_9 s (by omega) (by omega)
  by_cases g10 : s < 56
  · exact vm_rng_ok vx_F_rlo_3_10 s (by omega) (by omega)
  by_cases g11 : s < 61
  · exact vm_rng_ok vx_F_rlo_3_11 s (by omega) (by omega)
  by_cases g12 : s < 66
  · exact vm_rng_ok vx_F_rlo_3_12 s (by omega) (by omega)
  by_cases g13 : s < 71
  · exact vm_rng_ok vx_F_rlo_3_13 s (by omega) (by omega)
  by_cases g14 : s < 76
  · exact vm_rng_ok vx_F_rlo_3_14 s (by omega) (by omega)
  by_cases g15 : s < 81
  · exact vm_rng_ok vx_F_rlo_3_15 s (by omega) (by omega)
  by_cases g16 : s < 86
  · exact vm_rng_ok vx_F_rlo_3_16 s (by omega) (by omega)
  by_cases g17 : s < 91
  · exact vm_rng_ok vx_F_rlo_3_17 s (by omega) (by omega)
  by_cases g18 : s < 96
  · exact vm_rng_ok vx_F_rlo_3_18 s (by omega) (by omega)
  by_cases g19 : s < 101
  · exact vm_rng_ok vx_F_rlo_3_19 s (by omega) (by omega)
  by_cases g20 : s < 106
  · exact vm_rng_ok vx_F_rlo_3_20 s (by omega) (by omega)
  by_cases g21 : s < 111
  · exact vm_rng_ok vx_F_rlo_3_21 s (by omega) (by omega)
  by_cases g22 : s < 116
  · exact vm_rng_ok vx_F_rlo_3_22 s (by omega) (by omega)
  by_cases g23 : s < 121
  · exact vm_rng_ok vx_F_rlo_3_23 s (by omega) (by omega)
  by_cases g24 : s < 126
  · exact vm_rng_ok vx_F_rlo_3_24 s (by omega) (by omega)
  by_cases g25 : s < 131
  · exact vm_rng_ok vx_F_rlo_3_25 s (by omega) (by omega)
  by_cases g26 : s < 136
  · exact vm_rng_ok vx_F_rlo_3_26 s (by omega) (by omega)
  by_cases g27 : s < 141
  · exact vm_rng_ok vx_F_rlo_3_27 s (by omega) (by omega)
  by_cases g28 : s < 146
  · exact vm_rng_ok vx_F_rlo_3_28 s (by omega) (by omega)
  by_cases g29 : s < 151
  · exact vm_rng_ok vx_F_rlo_3_29 s (by omega) (by omega)
  by_cases g30 : s < 156
  · exact vm_rng_ok vx_F_rlo_3_30 s (by omega) (by omega)
  exact vm_rng_ok vx_F_rlo_3_31 s (by omega) (by omega)
theorem v_F_rlo_3 (s : Nat) (h1 : 1 ≤ s) (h2 : s < 160) : vm_at 5 (q_F_rlo_3 s) := by
  have h := vz_F_rlo_3 s h1 h2
  rw [Bool.and_eq_true, Bool.and_eq_true] at h
  exact vm_ok (inl := []) (es := ve_F_rlo_3 s) bq_159 (by decide) (vm_wts (L := 4) (vm_kc (vm_up (v_F_readFree (s + 0) (by omega) (by omega)) rfl) vm_kn) h.2.2) h.2.1 (fun i => vm_hc h.1 rfl (fun h => absurd h (Nat.not_lt_zero _))) _ List.mem_cons_self
noncomputable def vp_945 : List vm_R := [(none, va_h342), (none, va_h168)]
noncomputable def ve_945 : List vm_E := [([.inr (.inr (some 70)), .inl (.ofNat 6, .ofNat 6)], va_h340, 0, [0])]
noncomputable def q_945 : vm_Q := (159, [.inr (.inr (some 70)), .inl (.ofNat 6, .ofNat 6)], va_h340, vp_945)
noncomputable def vk_945 : List vm_U := [(q_940, false, [(7, 62, 6), (7, 62, 7)])]
noncomputable def vf_945 : List ((Nat → am_I) → vm_A) := [fun v => (0, [(0, .inr (.inr (some 70))), (1, .inl (.ofNat 6, .ofNat 6))], [], (80, [(62, va_c225)]))]
noncomputable def vd_945_0_0 : List (List Nat) := [[0]]
noncomputable def vd_945_0 : List (List (List Nat)) := [vd_945_0_0]
noncomputable def vd_945 : List (List (List (List Nat))) := [vd_945_0]
noncomputable def vt_945 : List (List am_I) := []
noncomputable def vc_945 : vm_C := (fun _ => vp_945, fun pc => [], [69], 1, vm_inst 8 1 vt_945 vf_945 vd_945)
theorem vx_945_0 : vm_chk bt_159 [] vk_945 8 vc_945 0 1 = true := by decide +kernel
theorem vy_945 : vm_ents 159 8 vc_945 ve_945 = true := by decide +kernel
theorem vw_945 : ∀ q ∈ vk_945, vm_wt 5 q := vm_wts (vm_kc (vm_up v_940 rfl) vm_kn) (by decide +kernel)
theorem v_945 : vm_at 6 q_945 := vm_ok (inl := []) (es := ve_945) bq_159 (by decide) vw_945 vy_945 (fun i => vm_hc vx_945_0 rfl (fun h => absurd h (Nat.not_lt_zero _))) _ List.mem_cons_self
noncomputable def vp_961 : List vm_R := [(none, va_h346), (none, va_h168), (none, va_h347)]
noncomputable def ve_961 : List vm_E := [([.inr (.inr (some 70)), .inl (.ofNat 6, .ofNat 6)], va_h353, 0, [0])]
noncomputable def q_961 : vm_Q := (159, [.inr (.inr (some 70)), .inl (.ofNat 6, .ofNat 6)], va_h353, vp_961)
noncomputable def vk_961 : List vm_U := [(q_956, false, [(7, 62, 6), (7, 62, 7)])]
noncomputable def vf_961 : List ((Nat → am_I) → vm_A) := [fun v => (0, [(0, .inr (.inr (some 70))), (1, .inl (.ofNat 6, .ofNat 6))], [], (80, [(62, va_c240)]))]
noncomputable def vd_961_0_0 : List (List Nat) := [[0]]
noncomputable def vd_961_0 : List (List (List Nat)) := [vd_961_0_0]
noncomputable def vd_961 : List (List (List (List Nat))) := [vd_961_0]
noncomputable def vt_961 : List (List am_I) := []
noncomputable def vc_961 : vm_C := (fun _ => vp_961, fun pc => [], [69], 1, vm_inst 8 1 vt_961 vf_961 vd_961)
theorem vx_961_0 : vm_chk bt_159 [] vk_961 8 vc_961 0 1 = true := by decide +kernel
theorem vy_961 : vm_ents 159 8 vc_961 ve_961 = true := by decide +kernel
theorem vw_961 : ∀ q ∈ vk_961, vm_wt 5 q := vm_wts (vm_kc (vm_up v_956 rfl) vm_kn) (by decide +kernel)
theorem v_961 : vm_at 6 q_961 := vm_ok (inl := []) (es := ve_961) bq_159 (by decide) vw_961 vy_961 (fun i => vm_hc vx_961_0 rfl (fun h => absurd h (Nat.not_lt_zero _))) _ List.mem_cons_self
noncomputable def vp_977 : List vm_R := [(none, va_h349), (none, va_h168), (none, va_h350)]
noncomputable def ve_977 : List vm_E := [([.inr (.inr (some 70)), .inl (.ofNat 6, .ofNat 6)], va_h354, 0, [0])]
noncomputable def q_977 : vm_Q := (159, [.inr (.inr (some 70)), .inl (.ofNat 6, .ofNat 6)], va_h354, vp_977)
noncomputable def vk_977 : List vm_U := [(q_972, false, [(7, 62, 6), (7, 62, 7)])]
noncomputable def vf_977 : List ((Nat → am_I) → vm_A) := [fun v => (0, [(0, .inr (.inr (some 70))), (1, .inl (.ofNat 6, .ofNat 6))], [], (80, [(62, va_c241)]))]
noncomputable def vd_977_0_0 : List (List Nat) := [[0]]
noncomputable def vd_977_0 : List (List (List Nat)) := [vd_977_0_0]
noncomputable def vd_977 : List (List (List (List Nat))) := [vd_977_0]
noncomputable def vt_977 : List (List am_I) := []
noncomputable def vc_977 : vm_C := (fun _ => vp_977, fun pc => [], [69], 1, vm_inst 8 1 vt_977 vf_977 vd_977)
theorem vx_977_0 : vm_chk bt_159 [] vk_977 8 vc_977 0 1 = true := by decide +kernel
theorem vy_977 : vm_ents 159 8 vc_977 ve_977 = true := by decide +kernel
theorem vw_977 : ∀ q ∈ vk_977, vm_wt 5 q := vm_wts (vm_kc (vm_up v_972 rfl) vm_kn) (by decide +kernel)
theorem v_977 : vm_at 6 q_977 := vm_ok (inl := []) (es := ve_977) bq_159 (by decide) vw_977 vy_977 (fun i => vm_hc vx_977_0 rfl (fun h => absurd h (Nat.not_lt_zero _))) _ List.mem_cons_self
noncomputable def vp_3505 : List vm_R := [(none, va_h343), (none, va_h168), (none, va_h344)]
noncomputable def ve_3505 : List vm_E := [([.inr (.inr (some 70)), .inl (.ofNat 6, .ofNat 6)], va_h167, 0, [0])]
noncomputable def q_3505 : vm_Q := (159, [.inr (.inr (some 70)), .inl (.ofNat 6, .ofNat 6)], va_h167, vp_3505)
noncomputable def vk_3505 : List vm_U := [(q_3500, false, [(7, 62, 6), (7, 62, 7)])]
noncomputable def vf_3505 : List ((Nat → am_I) → vm_A) := [fun v => (0, [(0, .inr (.inr (some 70))), (1, .inl (.ofNat 6, .ofNat 6))], [], (80, [(62, va_c52)]))]
noncomputable def vd_3505_0_0 : List (List Nat) := [[0]]
noncomputable def vd_3505_0 : List (List (List Nat)) := [vd_3505_0_0]
noncomputable def vd_3505 : List (List (List (List Nat))) := [vd_3505_0]
noncomputable def vt_3505 : List (List am_I) := []
noncomputable def vc_3505 : vm_C := (fun _ => vp_3505, fun pc => [], [69], 1, vm_inst 8 1 vt_3505 vf_3505 vd_3505)
theorem vx_3505_0 : vm_chk bt_159 [] vk_3505 8 vc_3505 0 1 = true := by decide +kernel
theorem vy_3505 : vm_ents 159 8 vc_3505 ve_3505 = true := by decide +kernel
theorem vw_3505 : ∀ q ∈ vk_3505, vm_wt 5 q := vm_wts (vm_kc (vm_up v_3500 rfl) vm_kn) (by decide +kernel)
theorem v_3505 : vm_at 6 q_3505 := vm_ok (inl := []) (es := ve_3505) bq_159 (by decide) vw_3505 vy_3505 (fun i => vm_hc vx_3505_0 rfl (fun h => absurd h (Nat.not_lt_zero _))) _ List.mem_cons_self
noncomputable def vp_F_rlo_6 (s : Nat) : List vm_R := [(none, (80, [(62, .inr (.inr (.inr (7, [.inr (.inr (some 71)), .inr (.inr (some 72)), .inl (.ofNat 2, .ofNat 5), .inl (.ofNat 2, .ofNat 5), .inl (.ofNat 0, .ofNat 5), .inr (.inr (some 73)), .inl (.ofNat 2, .ofNat 5), .inl (.ofNat 2, .ofNat 5), .inl (.ofNat 0, .ofNat 5), .inl am_top, .inl am_top, .inl am_top, .inr (.inr (some 74)), .inl (.ofNat 0, .ofNat 160), .inl (.ofNat (s + 0), .ofNat 160), .inl (.ofNat 0, .ofNat 160), .inl (.ofNat 0, .ofNat 0), .inl am_top, .inl (.ofNat 0, .ofNat 0), .inl am_top, .inr (.inr (some 75)), .inr (.inr (some 76)), .inr (.inr (some 77)), .inr (.inr (some 78)), .inr (.inr (some 79)), .inr (.inr (some 80)), .inr (.inr (some 81)), .inl (.negSucc 0, .ofNat 6), .inr (.inr (some 82)), .inr (.inr (some 83)), .inr (.inr (some 84)), .inr (.inr (some 85)), .inr (.inr (some 86)), .inl am_top, .inr (.inr (some 87))]))))])), (none, (80, [(62, .inr (.inr (.inr (7, [.inr (.inr (some 71)), .inr (.inr (some 72)), .inl (.ofNat 2, .ofNat 5), .inl (.ofNat 2, .ofNat 5), .inl (.ofNat 0, .ofNat 5), .inr (.inr (some 73)), .inl (.ofNat 0, .ofNat 5), .inl (.ofNat 0, .ofNat 5), .inl (.ofNat 0, .ofNat 5), .inl am_top, .inl am_top, .inl am_top, .inr (.inr (some 74)), .inl (.ofNat 0, .ofNat 160), .inl (.ofNat 0, .ofNat 160), .inl (.ofNat 0, .ofNat 160), .inl (.ofNat 0, .ofNat 3), .inl am_top, .inl (.ofNat 1, .ofNat 6), .inl am_top, .inr (.inr (some 75)), .inr (.inr (some 76)), .inr (.inr (some 77)), .inr (.inr (some 78)), .inr (.inr (some 79)), .inr (.inr (some 80)), .inr (.inr (some 81)), .inl (.negSucc 0, .ofNat 6), .inr (.inr (some 82)), .inr (.inr (some 83)), .inr (.inr (some 84)), .inr (.inr (some 85)), .inr (.inr (some 86)), .inl am_top, .inr (.inr (some 87))]))))])), (none, (80, [(62, .inr (.inr (.inr (7, [.inr (.inr (some 71)), .inr (.inr (some 72)), .inl (.ofNat 2, .ofNat 5), .inl (.ofNat 2, .ofNat 5), .inl (.ofNat 0, .ofNat 5), .inr (.inr (some 73)), .inl (.ofNat 2, .ofNat 5), .inl (.ofNat 2, .ofNat 5), .inl (.ofNat 0, .ofNat 5), .inl am_top, .inl am_top, .inl am_top, .inr (.inr (some 74)), .inl (.ofNat 0, .ofNat 160), .inl (.ofNat (s + 1), .ofNat 160), .inl (.ofNat 0, .ofNat 160), .inl (.ofNat 1, .ofNat 3), .inl am_top, .inl (.ofNat 0, .ofNat 0), .inl am_top, .inr (.inr (some 75)), .inr (.inr (some 76)), .inr (.inr (some 77)), .inr (.inr (some 78)), .inr (.inr (some 79)), .inr (.inr (some 80)), .inr (.inr (some 81)), .inl (.negSucc 0, .ofNat 6), .inr (.inr (some 82)), .inr (.inr (some 83)), .inr (.inr (some 84)), .inr (.inr (some 85)), .inr (.inr (some 86)), .inl am_top, .inr (.inr (some 87))]))))]))]
noncomputable def vk_F_rlo_6 (s : Nat) : List vm_U := [((q_F_readGoal (s + 0)), false, [(7, 62, 6), (7, 62, 7)])]
noncomputable def vf_F_rlo_6 (s : Nat) : List ((Nat → am_I) → vm_A) := [fun v => (0, [(0, .inr (.inr (some 70))), (1, .inl (.ofNat 6, .ofNat 6))], [], (80, [(62, .inr (.inr (.inr (7, [.inr (.inr (some 71)), .inr (.inr (some 72)), .inl (.ofNat 2, .ofNat 5), .inl (.ofNat 2, .ofNat 5), .inl (.ofNat 0, .ofNat 5), .inr (.inr (some 73)), .inl (.ofNat 2, .ofNat 5), .inl (.ofNat 2, .ofNat 5), .inl (.ofNat 0, .ofNat 5), .inl am_top, .inl am_top, .inl am_top, .inr (.inr (some 74)), .inl (.ofNat 0, .ofNat 160), .inl (.ofNat (s + 0), .ofNat 160), .inl (.ofNat 0, .ofNat 160), .inl (.ofNat 0, .ofNat 3), .inl am_top, .inl (.ofNat 0, .ofNat 0), .inl am_top, .inr (.inr (some 75)), .inr (.inr (some 76)), .inr (.inr (some 77)), .inr (.inr (some 78)), .inr (.inr (some 79)), .inr (.inr (some 80)), .inr (.inr (some 81)), .inl (.negSucc 0, .ofNat 6), .inr (.inr (some 82)), .inr (.inr (some 83)), .inr (.inr (some 84)), .inr (.inr (some 85)), .inr (.inr (some 86)), .inl am_top, .inr (.inr (some 87))]))))]))]
noncomputable def vd_F_rlo_6_0_0 (s : Nat) : List (List Nat) := [[0]]
noncomputable def vd_F_rlo_6_0 (s : Nat) : List (List (List Nat)) := [vd_F_rlo_6_0_0 s]
noncomputable def vd_F_rlo_6 (s : Nat) : List (List (List (List Nat))) := [vd_F_rlo_6_0 s]
noncomputable def vt_F_rlo_6 (s : Nat) : List (List am_I) := []
noncomputable def vc_F_rlo_6 (s : Nat) : vm_C := (fun _ => vp_F_rlo_6 s, fun pc => [], [69], 1, vm_inst 8 1 (vt_F_rlo_6 s) (vf_F_rlo_6 s) (vd_F_rlo_6 s))
noncomputable def ve_F_rlo_6 (s : Nat) : List vm_E := [([.inr (.inr (some 70)), .inl (.ofNat 6, .ofNat 6)], (80, [(62, .inr (.inr (.inr (7, [.inr (.inr (some 71)), .inr (.inr (some 72)), .inl (.ofNat 2, .ofNat 5), .inl (.ofNat 2, .ofNat 5), .inl (.ofNat 0, .ofNat 5), .inr (.inr (some 73)), .inl (.ofNat 2, .ofNat 5), .inl (.ofNat 2, .ofNat 5), .inl (.ofNat 0, .ofNat 5), .inl am_top, .inl am_top, .inl am_top, .inr (.inr (some 74)), .inl (.ofNat 0, .ofNat 160), .inl (.ofNat (s + 0), .ofNat 160), .inl (.ofNat 0, .ofNat 160), .inl (.ofNat 0, .ofNat 3), .inl am_top, .inl (.ofNat 0, .ofNat 0), .inl am_top, .inr (.inr (some 75)), .inr (.inr (some 76)), .inr (.inr (some 77)), .inr (.inr (some 78)), .inr (.inr (some 79)), .inr (.inr (some 80)), .inr (.inr (some 81)), .inl (.negSucc 0, .ofNat 6), .inr (.inr (some 82)), .inr (.inr (some 83)), .inr (.inr (some 84)), .inr (.inr (some 85)), .inr (.inr (some 86)), .inl am_top, .inr (.inr (some 87))]))))]), 0, [0])]
noncomputable def q_F_rlo_6 (s : Nat) : vm_Q := (159, [.inr (.inr (some 70)), .inl (.ofNat 6, .ofNat 6)], (80, [(62, .inr (.inr (.inr (7, [.inr (.inr (some 71)), .inr (.inr (some 72)), .inl (.ofNat 2, .ofNat 5), .inl (.ofNat 2, .ofNat 5), .inl (.ofNat 0, .ofNat 5), .inr (.inr (some 73)), .inl (.ofNat 2, .ofNat 5), .inl (.ofNat 2, .ofNat 5), .inl (.ofNat 0, .ofNat 5), .inl am_top, .inl am_top, .inl am_top, .inr (.inr (some 74)), .inl (.ofNat 0, .ofNat 160), .inl (.ofNat (s + 0), .ofNat 160), .inl (.ofNat 0, .ofNat 160), .inl (.ofNat 0, .ofNat 3), .inl am_top, .inl (.ofNat 0, .ofNat 0), .inl am_top, .inr (.inr (some 75)), .inr (.inr (some 76)), .inr (.inr (some 77)), .inr (.inr (some 78)), .inr (.inr (some 79)), .inr (.inr (some 80)), .inr (.inr (some 81)), .inl (.negSucc 0, .ofNat 6), .inr (.inr (some 82)), .inr (.inr (some 83)), .inr (.inr (some 84)), .inr (.inr (some 85)), .inr (.inr (some 86)), .inl am_top, .inr (.inr (some 87))]))))]), vp_F_rlo_6 s)
theorem vx_F_rlo_6_0 : vm_rng (fun s => vm_chk bt_159 [] (vk_F_rlo_6 s) 8 (vc_F_rlo_6 s) 0 1 && (vm_ents 159 8 (vc_F_rlo_6 s) (ve_F_rlo_6 s) && vm_kok (vk_F_rlo_6 s))) 1 17 = true := by decide +kernel
theorem vx_F_rlo_6_1 : vm_rng (fun s => vm_chk bt_159 [] (vk_F_rlo_6 s) 8 (vc_F_rlo_6 s) 0 1 && (vm_ents 159 8 (vc_F_rlo_6 s) (ve_F_rlo_6 s) && vm_kok (vk_F_rlo_6 s))) 18 17 = true := by decide +kernel
theorem vx_F_rlo_6_2 : vm_rng (fun s => vm_chk bt_159 [] (vk_F_rlo_6 s) 8 (vc_F_rlo_6 s) 0 1 && (vm_ents 159 8 (vc_F_rlo_6 s) (ve_F_rlo_6 s) && vm_kok (vk_F_rlo_6 s))) 35 17 = true := by decide +kernel
theorem vx_F_rlo_6_3 : vm_rng (fun s => vm_chk bt_159 [] (vk_F_rlo_6 s) 8 (vc_F_rlo_6 s) 0 1 && (vm_ents 159 8 (vc_F_rlo_6 s) (ve_F_rlo_6 s) && vm_kok (vk_F_rlo_6 s))) 52 17 = true := by decide +kernel
theorem vx_F_rlo_6_4 : vm_rng (fun s => vm_chk bt_159 [] (vk_F_rlo_6 s) 8 (vc_F_rlo_6 s) 0 1 && (vm_ents 159 8 (vc_F_rlo_6 s) (ve_F_rlo_6 s) && vm_kok (vk_F_rlo_6 s))) 69 17 = true := by decide +kernel
theorem vx_F_rlo_6_5 : vm_rng (fun s => vm_chk bt_159 [] (vk_F_rlo_6 s) 8 (vc_F_rlo_6 s) 0 1 && (vm_ents 159 8 (vc_F_rlo_6 s) (ve_F_rlo_6 s) && vm_kok (vk_F_rlo_6 s))) 86 17 = true := by decide +kernel
theorem vx_F_rlo_6_6 : vm_rng (fun s => vm_chk bt_159 [] (vk_F_rlo_6 s) 8 (vc_F_rlo_6 s) 0 1 && (vm_ents 159 8 (vc_F_rlo_6 s) (ve_F_rlo_6 s) && vm_kok (vk_F_rlo_6 s))) 103 17 = true := by decide +kernel
theorem vx_F_rlo_6_7 : vm_rng (fun s => vm_chk bt_159 [] (vk_F_rlo_6 s) 8 (vc_F_rlo_6 s) 0 1 && (vm_ents 159 8 (vc_F_rlo_6 s) (ve_F_rlo_6 s) && vm_kok (vk_F_rlo_6 s))) 120 17 = true := by decide +kernel
theorem vx_F_rlo_6_8 : vm_rng (fun s => vm_chk bt_159 [] (vk_F_rlo_6 s) 8 (vc_F_rlo_6 s) 0 1 && (vm_ents 159 8 (vc_F_rlo_6 s) (ve_F_rlo_6 s) && vm_kok (vk_F_rlo_6 s))) 137 17 = true := by decide +kernel
theorem vx_F_rlo_6_9 : vm_rng (fun s => vm_chk bt_159 [] (vk_F_rlo_6 s) 8 (vc_F_rlo_6 s) 0 1 && (vm_ents 159 8 (vc_F_rlo_6 s) (ve_F_rlo_6 s) && vm_kok (vk_F_rlo_6 s))) 154 4 = true := by decide +kernel
set_option maxRecDepth 20000 in
theorem vz_F_rlo_6 (s : Nat) (h1 : 1 ≤ s) (h2 : s < 158) : (vm_chk bt_159 [] (vk_F_rlo_6 s) 8 (vc_F_rlo_6 s) 0 1 && (vm_ents 159 8 (vc_F_rlo_6 s) (ve_F_rlo_6 s) && vm_kok (vk_F_rlo_6 s))) = true := by
  by_cases g0 : s < 18
  · exact vm_rng_ok vx_F_rlo_6_0 s (by omega) (by omega)
  by_cases g1 : s < 35
  · exact vm_rng_ok vx_F_rlo_6_1 s (by omega) (by omega)
  by_cases g2 : s < 52
  · exact vm_rng_ok vx_F_rlo_6_2 s (by omega) (by omega)
  by_cases g3 : s < 69
  · exact vm_rng_ok vx_F_rlo_6_3 s (by omega) (by omega)
  by_cases g4 : s < 86
  · exact vm_rng_ok vx_F_rlo_6_4 s (by omega) (by omega)
  by_cases g5 : s < 103
  · exact vm_rng_ok vx_F_rlo_6_5 s (by omega) (by omega)
  by_cases g6 : s < 120
  · exact vm_rng_ok vx_F_rlo_6_6 s (by omega) (by omega)
  by_cases g7 : s < 137
  · exact vm_rng_ok vx_F_rlo_6_7 s (by omega) (by omega)
  by_cases g8 : s < 154
  · exact vm_rng_ok vx_F_rlo_6_8 s (by omega) (by omega)
  exact vm_rng_ok vx_F_rlo_6_9 s (by omega) (by omega)
theorem v_F_rlo_6 (s : Nat) (h1 : 1 ≤ s) (h2 : s < 158) : vm_at 6 (q_F_rlo_6 s) := by
  have h := vz_F_rlo_6 s h1 h2
  rw [Bool.and_eq_true, Bool.and_eq_true] at h
  exact vm_ok (inl := []) (es := ve_F_rlo_6 s) bq_159 (by decide) (vm_wts (L := 5) (vm_kc (vm_up (v_F_readGoal (s + 0) (by omega) (by omega)) rfl) vm_kn) h.2.2) h.2.1 (fun i => vm_hc h.1 rfl (fun h => absurd h (Nat.not_lt_zero _))) _ List.mem_cons_self
noncomputable def vp_946 : List vm_R := [(none, va_h342), (none, va_h168)]
noncomputable def ve_946 : List vm_E := [([.inr (.inr (some 70)), .inl (.ofNat 4, .ofNat 4)], va_h345, 0, [0])]
noncomputable def q_946 : vm_Q := (159, [.inr (.inr (some 70)), .inl (.ofNat 4, .ofNat 4)], va_h345, vp_946)
noncomputable def vk_946 : List vm_U := [(q_522, true, []), (q_939, false, [(7, 62, 6), (7, 62, 7)])]
noncomputable def vf_946 : List ((Nat → am_I) → vm_A) := [fun v => (0, [(0, .inr (.inr (some 70))), (1, .inl (.ofNat 4, .ofNat 4))], [], (80, [(62, va_c232)]))]
noncomputable def vd_946_0_0 : List (List Nat) := [[0]]
noncomputable def vd_946_0 : List (List (List Nat)) := [vd_946_0_0]
noncomputable def vd_946 : List (List (List (List Nat))) := [vd_946_0]
noncomputable def vt_946 : List (List am_I) := []
noncomputable def vc_946 : vm_C := (fun _ => vp_946, fun pc => [], [69], 1, vm_inst 8 1 vt_946 vf_946 vd_946)
theorem vx_946_0 : vm_chk bt_159 [] vk_946 12 vc_946 0 1 = true := by decide +kernel
theorem vy_946 : vm_ents 159 12 vc_946 ve_946 = true := by decide +kernel
theorem vw_946 : ∀ q ∈ vk_946, vm_wt 5 q := vm_wts (vm_kc (vm_up v_522 rfl) (vm_kc (vm_up v_939 rfl) vm_kn)) (by decide +kernel)
theorem v_946 : vm_at 6 q_946 := vm_ok (inl := []) (es := ve_946) bq_159 (by decide) vw_946 vy_946 (fun i => vm_hc vx_946_0 rfl (fun h => absurd h (Nat.not_lt_zero _))) _ List.mem_cons_self
noncomputable def vp_962 : List vm_R := [(none, va_h346), (none, va_h168), (none, va_h347)]
noncomputable def ve_962 : List vm_E := [([.inr (.inr (some 70)), .inl (.ofNat 4, .ofNat 4)], va_h348, 0, [0])]
noncomputable def q_962 : vm_Q := (159, [.inr (.inr (some 70)), .inl (.ofNat 4, .ofNat 4)], va_h348, vp_962)
noncomputable def vk_962 : List vm_U := [(q_522, true, []), (q_955, false, [(7, 62, 6), (7, 62, 7)])]
noncomputable def vf_962 : List ((Nat → am_I) → vm_A) := [fun v => (0, [(0, .inr (.inr (some 70))), (1, .inl (.ofNat 4, .ofNat 4))], [], (80, [(62, va_c235)]))]
noncomputable def vd_962_0_0 : List (List Nat) := [[0]]
noncomputable def vd_962_0 : List (List (List Nat)) := [vd_962_0_0]
noncomputable def vd_962 : List (List (List (List Nat))) := [vd_962_0]
noncomputable def vt_962 : List (List am_I) := []
noncomputable def vc_962 : vm_C := (fun _ => vp_962, fun pc => [], [69], 1, vm_inst 8 1 vt_962 vf_962 vd_962)
theorem vx_962_0 : vm_chk bt_159 [] vk_962 12 vc_962 0 1 = true := by decide +kernel
theorem vy_962 : vm_ents 159 12 vc_962 ve_962 = true := by decide +kernel
theorem vw_962 : ∀ q ∈ vk_962, vm_wt 5 q := vm_wts (vm_kc (vm_up v_522 rfl) (vm_kc (vm_up v_955 rfl) vm_kn)) (by decide +kernel)
theorem v_962 : vm_at 6 q_962 := vm_ok (inl := []) (es := ve_962) bq_159 (by decide) vw_962 vy_962 (fun i => vm_hc vx_962_0 rfl (fun h => absurd h (Nat.not_lt_zero _))) _ List.mem_cons_self
noncomputable def vp_978 : List vm_R := [(none, va_h349), (none, va_h168), (none, va_h350)]
noncomputable def ve_978 : List vm_E := [([.inr (.inr (some 70)), .inl (.ofNat 4, .ofNat 4)], va_h351, 0, [0])]
noncomputable def q_978 : vm_Q := (159, [.inr (.inr (some 70)), .inl (.ofNat 4, .ofNat 4)], va_h351, vp_978)
noncomputable def vk_978 : List vm_U := [(q_522, true, []), (q_971, false, [(7, 62, 6), (7, 62, 7)])]
noncomputable def vf_978 : List ((Nat → am_I) → vm_A) := [fun v => (0, [(0, .inr (.inr (some 70))), (1, .inl (.ofNat 4, .ofNat 4))], [], (80, [(62, va_c238)]))]
noncomputable def vd_978_0_0 : List (List Nat) := [[0]]
noncomputable def vd_978_0 : List (List (List Nat)) := [vd_978_0_0]
noncomputable def vd_978 : List (List (List (List Nat))) := [vd_978_0]
noncomputable def vt_978 : List (List am_I) := []
noncomputable def vc_978 : vm_C := (fun _ => vp_978, fun pc => [], [69], 1, vm_inst 8 1 vt_978 vf_978 vd_978)
theorem vx_978_0 : vm_chk bt_159 [] vk_978 12 vc_978 0 1 = true := by decide +kernel
theorem vy_978 : vm_ents 159 12 vc_978 ve_978 = true := by decide +kernel
theorem vw_978 : ∀ q ∈ vk_978, vm_wt 5 q := vm_wts (vm_kc (vm_up v_522 rfl) (vm_kc (vm_up v_971 rfl) vm_kn)) (by decide +kernel)
theorem v_978 : vm_at 6 q_978 := vm_ok (inl := []) (es := ve_978) bq_159 (by decide) vw_978 vy_978 (fun i => vm_hc vx_978_0 rfl (fun h => absurd h (Nat.not_lt_zero _))) _ List.mem_cons_self
noncomputable def vp_3506 : List vm_R := [(none, va_h343), (none, va_h168), (none, va_h344)]
noncomputable def ve_3506 : List vm_E := [([.inr (.inr (some 70)), .inl (.ofNat 4, .ofNat 4)], va_h352, 0, [0])]
noncomputable def q_3506 : vm_Q := (159, [.inr (.inr (some 70)), .inl (.ofNat 4, .ofNat 4)], va_h352, vp_3506)
noncomputable def vk_3506 : List vm_U := [(q_522, true, []), (q_3499, false, [(7, 62, 6), (7, 62, 7)])]
noncomputable def vf_3506 : List ((Nat → am_I) → vm_A) := [fun v => (0, [(0, .inr (.inr (some 70))), (1, .inl (.ofNat 4, .ofNat 4))], [], (80, [(62, va_c239)]))]
noncomputable def vd_3506_0_0 : List (List Nat) := [[0]]
noncomputable def vd_3506_0 : List (List (List Nat)) := [vd_3506_0_0]
noncomputable def vd_3506 : List (List (List (List Nat))) := [vd_3506_0]
noncomputable def vt_3506 : List (List am_I) := []
noncomputable def vc_3506 : vm_C := (fun _ => vp_3506, fun pc => [], [69], 1, vm_inst 8 1 vt_3506 vf_3506 vd_3506)
theorem vx_3506_0 : vm_chk bt_159 [] vk_3506 12 vc_3506 0 1 = true := by decide +kernel
theorem vy_3506 : vm_ents 159 12 vc_3506 ve_3506 = true := by decide +kernel
theorem vw_3506 : ∀ q ∈ vk_3506, vm_wt 5 q := vm_wts (vm_kc (vm_up v_522 rfl) (vm_kc (vm_up v_3499 rfl) vm_kn)) (by decide +kernel)
theorem v_3506 : vm_at 6 q_3506 := vm_ok (inl := []) (es := ve_3506) bq_159 (by decide) vw_3506 vy_3506 (fun i => vm_hc vx_3506_0 rfl (fun h => absurd h (Nat.not_lt_zero _))) _ List.mem_cons_self
noncomputable def vp_F_rlo_4 (s : Nat) : List vm_R := [(none, (80, [(62, .inr (.inr (.inr (7, [.inr (.inr (some 71)), .inr (.inr (some 72)), .inl (.ofNat 2, .ofNat 5), .inl (.ofNat 2, .ofNat 5), .inl (.ofNat 0, .ofNat 5), .inr (.inr (some 73)), .inl (.ofNat 2, .ofNat 5), .inl (.ofNat 2, .ofNat 5), .inl (.ofNat 0, .ofNat 5), .inl am_top, .inl am_top, .inl am_top, .inr (.inr (some 74)), .inl (.ofNat 0, .ofNat 160), .inl (.ofNat (s + 0), .ofNat 160), .inl (.ofNat 0, .ofNat 160), .inl (.ofNat 0, .ofNat 0), .inl am_top, .inl (.ofNat 0, .ofNat 0), .inl am_top, .inr (.inr (some 75)), .inr (.inr (some 76)), .inr (.inr (some 77)), .inr (.inr (some 78)), .inr (.inr (some 79)), .inr (.inr (some 80)), .inr (.inr (some 81)), .inl (.negSucc 0, .ofNat 6), .inr (.inr (some 82)), .inr (.inr (some 83)), .inr (.inr (some 84)), .inr (.inr (some 85)), .inr (.inr (some 86)), .inl am_top, .inr (.inr (some 87))]))))])), (none, (80, [(62, .inr (.inr (.inr (7, [.inr (.inr (some 71)), .inr (.inr (some 72)), .inl (.ofNat 2, .ofNat 5), .inl (.ofNat 2, .ofNat 5), .inl (.ofNat 0, .ofNat 5), .inr (.inr (some 73)), .inl (.ofNat 0, .ofNat 5), .inl (.ofNat 0, .ofNat 5), .inl (.ofNat 0, .ofNat 5), .inl am_top, .inl am_top, .inl am_top, .inr (.inr (some 74)), .inl (.ofNat 0, .ofNat 160), .inl (.ofNat 0, .ofNat 160), .inl (.ofNat 0, .ofNat 160), .inl (.ofNat 0, .ofNat 3), .inl am_top, .inl (.ofNat 1, .ofNat 6), .inl am_top, .inr (.inr (some 75)), .inr (.inr (some 76)), .inr (.inr (some 77)), .inr (.inr (some 78)), .inr (.inr (some 79)), .inr (.inr (some 80)), .inr (.inr (some 81)), .inl (.negSucc 0, .ofNat 6), .inr (.inr (some 82)), .inr (.inr (some 83)), .inr (.inr (some 84)), .inr (.inr (some 85)), .inr (.inr (some 86)), .inl am_top, .inr (.inr (some 87))]))))])), (none, (80, [(62, .inr (.inr (.inr (7, [.inr (.inr (some 71)), .inr (.inr (some 72)), .inl (.ofNat 2, .ofNat 5), .inl (.ofNat 2, .ofNat 5), .inl (.ofNat 0, .ofNat 5), .inr (.inr (some 73)), .inl (.ofNat 2, .ofNat 5), .inl (.ofNat 2, .ofNat 5), .inl (.ofNat 0, .ofNat 5), .inl am_top, .inl am_top, .inl am_top, .inr (.inr (some 74)), .inl (.ofNat 0, .ofNat 160), .inl (.ofNat (s + 1), .ofNat 160), .inl (.ofNat 0, .ofNat 160), .inl (.ofNat 1, .ofNat 3), .inl am_top, .inl (.ofNat 0, .ofNat 0), .inl am_top, .inr (.inr (some 75)), .inr (.inr (some 76)), .inr (.inr (some 77)), .inr (.inr (some 78)), .inr (.inr (some 79)), .inr (.inr (some 80)), .inr (.inr (some 81)), .inl (.negSucc 0, .ofNat 6), .inr (.inr (some 82)), .inr (.inr (some 83)), .inr (.inr (some 84)), .inr (.inr (some 85)), .inr (.inr (some 86)), .inl am_top, .inr (.inr (some 87))]))))]))]
noncomputable def vk_F_rlo_4 (s : Nat) : List vm_U := [(q_522, true, []), ((q_F_readOne (s + 0)), false, [(7, 62, 6), (7, 62, 7)])]
noncomputable def vf_F_rlo_4 (s : Nat) : List ((Nat → am_I) → vm_A) := [fun v => (0, [(0, .inr (.inr (some 70))), (1, .inl (.ofNat 4, .ofNat 4))], [], (80, [(62, .inr (.inr (.inr (7, [.inr (.inr (some 71)), .inr (.inr (some 72)), .inl (.ofNat 2, .ofNat 5), .inl (.ofNat 2, .ofNat 5), .inl (.ofNat 0, .ofNat 5), .inr (.inr (some 73)), .inl (.ofNat 2, .ofNat 5), .inl (.ofNat 2, .ofNat 5), .inl (.ofNat 0, .ofNat 4), .inl am_top, .inl am_top, .inl am_top, .inr (.inr (some 74)), .inl (.ofNat 0, .ofNat 160), .inl (.ofNat (s + 0), .ofNat 160), .inl (.ofNat 0, .ofNat 160), .inl (.ofNat 0, .ofNat 3), .inl am_top, .inl (.ofNat 0, .ofNat 0), .inl am_top, .inr (.inr (some 75)), .inr (.inr (some 76)), .inr (.inr (some 77)), .inr (.inr (some 78)), .inr (.inr (some 79)), .inr (.inr (some 80)), .inr (.inr (some 81)), .inl (.negSucc 0, .ofNat 6), .inr (.inr (some 82)), .inr (.inr (some 83)), .inr (.inr (some 84)), .inr (.inr (some 85)), .inr (.inr (some 86)), .inl am_top, .inr (.inr (some 87))]))))]))]
noncomputable def vd_F_rlo_4_0_0 (s : Nat) : List (List Nat) := [[0]]
noncomputable def vd_F_rlo_4_0 (s : Nat) : List (List (List Nat)) := [vd_F_rlo_4_0_0 s]
noncomputable def vd_F_rlo_4 (s : Nat) : List (List (List (List Nat))) := [vd_F_rlo_4_0 s]
noncomputable def vt_F_rlo_4 (s : Nat) : List (List am_I) := []
noncomputable def vc_F_rlo_4 (s : Nat) : vm_C := (fun _ => vp_F_rlo_4 s, fun pc => [], [69], 1, vm_inst 8 1 (vt_F_rlo_4 s) (vf_F_rlo_4 s) (vd_F_rlo_4 s))
noncomputable def ve_F_rlo_4 (s : Nat) : List vm_E := [([.inr (.inr (some 70)), .inl (.ofNat 4, .ofNat 4)], (80, [(62, .inr (.inr (.inr (7, [.inr (.inr (some 71)), .inr (.inr (some 72)), .inl (.ofNat 2, .ofNat 5), .inl (.ofNat 2, .ofNat 5), .inl (.ofNat 0, .ofNat 5), .inr (.inr (some 73)), .inl (.ofNat 2, .ofNat 5), .inl (.ofNat 2, .ofNat 5), .inl (.ofNat 0, .ofNat 4), .inl am_top, .inl am_top, .inl am_top, .inr (.inr (some 74)), .inl (.ofNat 0, .ofNat 160), .inl (.ofNat (s + 0), .ofNat 160), .inl (.ofNat 0, .ofNat 160), .inl (.ofNat 0, .ofNat 3), .inl am_top, .inl (.ofNat 0, .ofNat 0), .inl am_top, .inr (.inr (some 75)), .inr (.inr (some 76)), .inr (.inr (some 77)), .inr (.inr (some 78)), .inr (.inr (some 79)), .inr (.inr (some 80)), .inr (.inr (some 81)), .inl (.negSucc 0, .ofNat 6), .inr (.inr (some 82)), .inr (.inr (some 83)), .inr (.inr (some 84)), .inr (.inr (some 85)), .inr (.inr (some 86)), .inl am_top, .inr (.inr (some 87))]))))]), 0, [0])]
noncomputable def q_F_rlo_4 (s : Nat) : vm_Q := (159, [.inr (.inr (some 70)), .inl (.ofNat 4, .ofNat 4)], (80, [(62, .inr (.inr (.inr (7, [.inr (.inr (some 71)), .inr (.inr (some 72)), .inl (.ofNat 2, .ofNat 5), .inl (.ofNat 2, .ofNat 5), .inl (.ofNat 0, .ofNat 5), .inr (.inr (some 73)), .inl (.ofNat 2, .ofNat 5), .inl (.ofNat 2, .ofNat 5), .inl (.ofNat 0, .ofNat 4), .inl am_top, .inl am_top, .inl am_top, .inr (.inr (some 74)), .inl (.ofNat 0, .ofNat 160), .inl (.ofNat (s + 0), .ofNat 160), .inl (.ofNat 0, .ofNat 160), .inl (.ofNat 0, .ofNat 3), .inl am_top, .inl (.ofNat 0, .ofNat 0), .inl am_top, .inr (.inr (some 75)), .inr (.inr (some 76)), .inr (.inr (some 77)), .inr (.inr (some 78)), .inr (.inr (some 79)), .inr (.inr (some 80)), .inr (.inr (some 81)), .inl (.negSucc 0, .ofNat 6), .inr (.inr (some 82)), .inr (.inr (some 83)), .inr (.inr (some 84)), .inr (.inr (some 85)), .inr (.inr (some 86)), .inl am_top, .inr (.inr (some 87))]))))]), vp_F_rlo_4 s)
theorem vx_F_rlo_4_0 : vm_rng (fun s => vm_chk bt_159 [] (vk_F_rlo_4 s) 12 (vc_F_rlo_4 s) 0 1 && (vm_ents 159 12 (vc_F_rlo_4 s) (ve_F_rlo_4 s) && vm_kok (vk_F_rlo_4 s))) 1 15 = true := by decide +kernel
theorem vx_F_rlo_4_1 : vm_rng (fun s => vm_chk bt_159 [] (vk_F_rlo_4 s) 12 (vc_F_rlo_4 s) 0 1 && (vm_ents 159 12 (vc_F_rlo_4 s) (ve_F_rlo_4 s) && vm_kok (vk_F_rlo_4 s))) 16 15 = true := by decide +kernel
theorem vx_F_rlo_4_2 : vm_rng (fun s => vm_chk bt_159 [] (vk_F_rlo_4 s) 12 (vc_F_rlo_4 s) 0 1 && (vm_ents 159 12 (vc_F_rlo_4 s) (ve_F_rlo_4 s) && vm_kok (vk_F_rlo_4 s))) 31 15 = true := by decide +kernel
theorem vx_F_rlo_4_3 : vm_rng (fun s => vm_chk bt_159 [] (vk_F_rlo_4 s) 12 (vc_F_rlo_4 s) 0 1 && (vm_ents 159 12 (vc_F_rlo_4 s) (ve_F_rlo_4 s) && vm_kok (vk_F_rlo_4 s))) 46 15 = true := by decide +kernel
theorem vx_F_rlo_4_4 : vm_rng (fun s => vm_chk bt_159 [] (vk_F_rlo_4 s) 12 (vc_F_rlo_4 s) 0 1 && (vm_ents 159 12 (vc_F_rlo_4 s) (ve_F_rlo_4 s) && vm_kok (vk_F_rlo_4 s))) 61 15 = true := by decide +kernel
theorem vx_F_rlo_4_5 : vm_rng (fun s => vm_chk bt_159 [] (vk_F_rlo_4 s) 12 (vc_F_rlo_4 s) 0 1 && (vm_ents 159 12 (vc_F_rlo_4 s) (ve_F_rlo_4 s) && vm_kok (vk_F_rlo_4 s))) 76 15 = true := by decide +kernel
theorem vx_F_rlo_4_6 : vm_rng (fun s => vm_chk bt_159 [] (vk_F_rlo_4 s) 12 (vc_F_rlo_4 s) 0 1 && (vm_ents 159 12 (vc_F_rlo_4 s) (ve_F_rlo_4 s) && vm_kok (vk_F_rlo_4 s))) 91 15 = true := by decide +kernel
theorem vx_F_rlo_4_7 : vm_rng (fun s => vm_chk bt_159 [] (vk_F_rlo_4 s) 12 (vc_F_rlo_4 s) 0 1 && (vm_ents 159 12 (vc_F_rlo_4 s) (ve_F_rlo_4 s) && vm_kok (vk_F_rlo_4 s))) 106 15 = true := by decide +kernel
theorem vx_F_rlo_4_8 : vm_rng (fun s => vm_chk bt_159 [] (vk_F_rlo_4 s) 12 (vc_F_rlo_4 s) 0 1 && (vm_ents 159 12 (vc_F_rlo_4 s) (ve_F_rlo_4 s) && vm_kok (vk_F_rlo_4 s))) 121 15 = true := by decide +kernel
theorem vx_F_rlo_4_9 : vm_rng (fun s => vm_chk bt_159 [] (vk_F_rlo_4 s) 12 (vc_F_rlo_4 s) 0 1 && (vm_ents 159 12 (vc_F_rlo_4 s) (ve_F_rlo_4 s) && vm_kok (vk_F_rlo_4 s))) 136 15 = true := by decide +kernel
theorem vx_F_rlo_4_10 : vm_rng (fun s => vm_chk bt_159 [] (vk_F_rlo_4 s) 12 (vc_F_rlo_4 s) 0 1 && (vm_ents 159 12 (vc_F_rlo_4 s) (ve_F_rlo_4 s) && vm_kok (vk_F_rlo_4 s))) 151 7 = true := by decide +kernel
set_option maxRecDepth 20000 in
theorem vz_F_rlo_4 (s : Nat) (h1 : 1 ≤ s) (h2 : s < 158) : (vm_chk bt_159 [] (vk_F_rlo_4 s) 12 (vc_F_rlo_4 s) 0 1 && (vm_ents 159 12 (vc_F_rlo_4 s) (ve_F_rlo_4 s) && vm_kok (vk_F_rlo_4 s))) = true := by
  by_cases g0 : s < 16
  · exact vm_rng_ok vx_F_rlo_4_0 s (by omega) (by omega)
  by_cases g1 : s < 31
  · exact vm_rng_ok vx_F_rlo_4_1 s (by omega) (by omega)
  by_cases g2 : s < 46
  · exact vm_rng_ok vx_F_rlo_4_2 s (by omega) (by omega)
  by_cases g3 : s < 61
  · exact vm_rng_ok vx_F_rlo_4_3 s (by omega) (by omega)
  by_cases g4 : s < 76
  · exact vm_rng_ok vx_F_rlo_4_4 s (by omega) (by omega)
  by_cases g5 : s < 91
  · exact vm_rng_ok vx_F_rlo_4_5 s (by omega) (by omega)
  by_cases g6 : s < 106
  · exact vm_rng_ok vx_F_rlo_4_6 s (by omega) (by omega)
  by_cases g7 : s < 121
  · exact vm_rng_ok vx_F_rlo_4_7 s (by omega) (by omega)
  by_cases g8 : s < 136
  · exact vm_rng_ok vx_F_rlo_4_8 s (by omega) (by omega)
  by_cases g9 : s < 151
  · exact vm_rng_ok vx_F_rlo_4_9 s (by omega) (by omega)
  exact vm_rng_ok vx_F_rlo_4_10 s (by omega) (by omega)
theorem v_F_rlo_4 (s : Nat) (h1 : 1 ≤ s) (h2 : s < 158) : vm_at 6 (q_F_rlo_4 s) := by
  have h := vz_F_rlo_4 s h1 h2
  rw [Bool.and_eq_true, Bool.and_eq_true] at h
  exact vm_ok (inl := []) (es := ve_F_rlo_4 s) bq_159 (by decide) (vm_wts (L := 5) (vm_kc (vm_up v_522 rfl) (vm_kc (vm_up (v_F_readOne (s + 0) (by omega) (by omega)) rfl) vm_kn)) h.2.2) h.2.1 (fun i => vm_hc h.1 rfl (fun h => absurd h (Nat.not_lt_zero _))) _ List.mem_cons_self
noncomputable def vp_947 : List vm_R := [(none, va_h342), (none, va_h168)]
noncomputable def ve_947 : List vm_E := [([.inr (.inr (some 70)), .inl (.ofNat 5, .ofNat 5)], va_h345, 0, [0])]
noncomputable def q_947 : vm_Q := (159, [.inr (.inr (some 70)), .inl (.ofNat 5, .ofNat 5)], va_h345, vp_947)
noncomputable def vk_947 : List vm_U := [(q_521, true, []), (q_939, false, [(7, 62, 6), (7, 62, 7)])]
noncomputable def vf_947 : List ((Nat → am_I) → vm_A) := [fun v => (0, [(0, .inr (.inr (some 70))), (1, .inl (.ofNat 5, .ofNat 5))], [], (80, [(62, va_c232)]))]
noncomputable def vd_947_0_0 : List (List Nat) := [[0]]
noncomputable def vd_947_0 : List (List (List Nat)) := [vd_947_0_0]
noncomputable def vd_947 : List (List (List (List Nat))) := [vd_947_0]
noncomputable def vt_947 : List (List am_I) := []
noncomputable def vc_947 : vm_C := (fun _ => vp_947, fun pc => [], [69], 1, vm_inst 8 1 vt_947 vf_947 vd_947)
theorem vx_947_0 : vm_chk bt_159 [] vk_947 13 vc_947 0 1 = true := by decide +kernel
theorem vy_947 : vm_ents 159 13 vc_947 ve_947 = true := by decide +kernel
theorem vw_947 : ∀ q ∈ vk_947, vm_wt 5 q := vm_wts (vm_kc (vm_up v_521 rfl) (vm_kc (vm_up v_939 rfl) vm_kn)) (by decide +kernel)
theorem v_947 : vm_at 6 q_947 := vm_ok (inl := []) (es := ve_947) bq_159 (by decide) vw_947 vy_947 (fun i => vm_hc vx_947_0 rfl (fun h => absurd h (Nat.not_lt_zero _))) _ List.mem_cons_self
noncomputable def vp_963 : List vm_R := [(none, va_h346), (none, va_h168), (none, va_h347)]
noncomputable def ve_963 : List vm_E := [([.inr (.inr (some 70)), .inl (.ofNat 5, .ofNat 5)], va_h348, 0, [0])]
noncomputable def q_963 : vm_Q := (159, [.inr (.inr (some 70)), .inl (.ofNat 5, .ofNat 5)], va_h348, vp_963)
noncomputable def vk_963 : List vm_U := [(q_521, true, []), (q_955, false, [(7, 62, 6), (7, 62, 7)])]
noncomputable def vf_963 : List ((Nat → am_I) → vm_A) := [fun v => (0, [(0, .inr (.inr (some 70))), (1, .inl (.ofNat 5, .ofNat 5))], [], (80, [(62, va_c235)]))]
noncomputable def vd_963_0_0 : List (List Nat) := [[0]]
noncomputable def vd_963_0 : List (List (List Nat)) := [vd_963_0_0]
noncomputable def vd_963 : List (List (List (List Nat))) := [vd_963_0]
noncomputable def vt_963 : List (List am_I) := []
noncomputable def vc_963 : vm_C := (fun _ => vp_963, fun pc => [], [69], 1, vm_inst 8 1 vt_963 vf_963 vd_963)
theorem vx_963_0 : vm_chk bt_159 [] vk_963 13 vc_963 0 1 = true := by decide +kernel
theorem vy_963 : vm_ents 159 13 vc_963 ve_963 = true := by decide +kernel
theorem vw_963 : ∀ q ∈ vk_963, vm_wt 5 q := vm_wts (vm_kc (vm_up v_521 rfl) (vm_kc (vm_up v_955 rfl) vm_kn)) (by decide +kernel)
theorem v_963 : vm_at 6 q_963 := vm_ok (inl := []) (es := ve_963) bq_159 (by decide) vw_963 vy_963 (fun i => vm_hc vx_963_0 rfl (fun h => absurd h (Nat.not_lt_zero _))) _ List.mem_cons_self
noncomputable def vp_979 : List vm_R := [(none, va_h349), (none, va_h168), (none, va_h350)]
noncomputable def ve_979 : List vm_E := [([.inr (.inr (some 70)), .inl (.ofNat 5, .ofNat 5)], va_h351, 0, [0])]
noncomputable def q_979 : vm_Q := (159, [.inr (.inr (some 70)), .inl (.ofNat 5, .ofNat 5)], va_h351, vp_979)
noncomputable def vk_979 : List vm_U := [(q_521, true, []), (q_971, false, [(7, 62, 6), (7, 62, 7)])]
noncomputable def vf_979 : List ((Nat → am_I) → vm_A) := [fun v => (0, [(0, .inr (.inr (some 70))), (1, .inl (.ofNat 5, .ofNat 5))], [], (80, [(62, va_c238)]))]
noncomputable def vd_979_0_0 : List (List Nat) := [[0]]
noncomputable def vd_979_0 : List (List (List Nat)) := [vd_979_0_0]
noncomputable def vd_979 : List (List (List (List Nat))) := [vd_979_0]
noncomputable def vt_979 : List (List am_I) := []
noncomputable def vc_979 : vm_C := (fun _ => vp_979, fun pc => [], [69], 1, vm_inst 8 1 vt_979 vf_979 vd_979)
theorem vx_979_0 : vm_chk bt_159 [] vk_979 13 vc_979 0 1 = true := by decide +kernel
theorem vy_979 : vm_ents 159 13 vc_979 ve_979 = true := by decide +kernel
theorem vw_979 : ∀ q ∈ vk_979, vm_wt 5 q := vm_wts (vm_kc (vm_up v_521 rfl) (vm_kc (vm_up v_971 rfl) vm_kn)) (by decide +kernel)
theorem v_979 : vm_at 6 q_979 := vm_ok (inl := []) (es := ve_979) bq_159 (by decide) vw_979 vy_979 (fun i => vm_hc vx_979_0 rfl (fun h => absurd h (Nat.not_lt_zero _))) _ List.mem_cons_self
noncomputable def vp_3507 : List vm_R := [(none, va_h343), (none, va_h168), (none, va_h344)]
noncomputable def ve_3507 : List vm_E := [([.inr (.inr (some 70)), .inl (.ofNat 5, .ofNat 5)], va_h352, 0, [0])]
noncomputable def q_3507 : vm_Q := (159, [.inr (.inr (some 70)), .inl (.ofNat 5, .ofNat 5)], va_h352, vp_3507)
noncomputable def vk_3507 : List vm_U := [(q_521, true, []), (q_3499, false, [(7, 62, 6), (7, 62, 7)])]
noncomputable def vf_3507 : List ((Nat → am_I) → vm_A) := [fun v => (0, [(0, .inr (.inr (some 70))), (1, .inl (.ofNat 5, .ofNat 5))], [], (80, [(62, va_c239)]))]
noncomputable def vd_3507_0_0 : List (List Nat) := [[0]]
noncomputable def vd_3507_0 : List (List (List Nat)) := [vd_3507_0_0]
noncomputable def vd_3507 : List (List (List (List Nat))) := [vd_3507_0]
noncomputable def vt_3507 : List (List am_I) := []
noncomputable def vc_3507 : vm_C := (fun _ => vp_3507, fun pc => [], [69], 1, vm_inst 8 1 vt_3507 vf_3507 vd_3507)
theorem vx_3507_0 : vm_chk bt_159 [] vk_3507 13 vc_3507 0 1 = true := by decide +kernel
theorem vy_3507 : vm_ents 159 13 vc_3507 ve_3507 = true := by decide +kernel
theorem vw_3507 : ∀ q ∈ vk_3507, vm_wt 5 q := vm_wts (vm_kc (vm_up v_521 rfl) (vm_kc (vm_up v_3499 rfl) vm_kn)) (by decide +kernel)
theorem v_3507 : vm_at 6 q_3507 := vm_ok (inl := []) (es := ve_3507) bq_159 (by decide) vw_3507 vy_3507 (fun i => vm_hc vx_3507_0 rfl (fun h => absurd h (Nat.not_lt_zero _))) _ List.mem_cons_self
noncomputable def vp_F_rlo_5 (s : Nat) : List vm_R := [(none, (80, [(62, .inr (.inr (.inr (7, [.inr (.inr (some 71)), .inr (.inr (some 72)), .inl (.ofNat 2, .ofNat 5), .inl (.ofNat 2, .ofNat 5), .inl (.ofNat 0, .ofNat 5), .inr (.inr (some 73)), .inl (.ofNat 2, .ofNat 5), .inl (.ofNat 2, .ofNat 5), .inl (.ofNat 0, .ofNat 5), .inl am_top, .inl am_top, .inl am_top, .inr (.inr (some 74)), .inl (.ofNat 0, .ofNat 160), .inl (.ofNat (s + 0), .ofNat 160), .inl (.ofNat 0, .ofNat 160), .inl (.ofNat 0, .ofNat 0), .inl am_top, .inl (.ofNat 0, .ofNat 0), .inl am_top, .inr (.inr (some 75)), .inr (.inr (some 76)), .inr (.inr (some 77)), .inr (.inr (some 78)), .inr (.inr (some 79)), .inr (.inr (some 80)), .inr (.inr (some 81)), .inl (.negSucc 0, .ofNat 6), .inr (.inr (some 82)), .inr (.inr (some 83)), .inr (.inr (some 84)), .inr (.inr (some 85)), .inr (.inr (some 86)), .inl am_top, .inr (.inr (some 87))]))))])), (none, (80, [(62, .inr (.inr (.inr (7, [.inr (.inr (some 71)), .inr (.inr (some 72)), .inl (.ofNat 2, .ofNat 5), .inl (.ofNat 2, .ofNat 5), .inl (.ofNat 0, .ofNat 5), .inr (.inr (some 73)), .inl (.ofNat 0, .ofNat 5), .inl (.ofNat 0, .ofNat 5), .inl (.ofNat 0, .ofNat 5), .inl am_top, .inl am_top, .inl am_top, .inr (.inr (some 74)), .inl (.ofNat 0, .ofNat 160), .inl (.ofNat 0, .ofNat 160), .inl (.ofNat 0, .ofNat 160), .inl (.ofNat 0, .ofNat 3), .inl am_top, .inl (.ofNat 1, .ofNat 6), .inl am_top, .inr (.inr (some 75)), .inr (.inr (some 76)), .inr (.inr (some 77)), .inr (.inr (some 78)), .inr (.inr (some 79)), .inr (.inr (some 80)), .inr (.inr (some 81)), .inl (.negSucc 0, .ofNat 6), .inr (.inr (some 82)), .inr (.inr (some 83)), .inr (.inr (some 84)), .inr (.inr (some 85)), .inr (.inr (some 86)), .inl am_top, .inr (.inr (some 87))]))))])), (none, (80, [(62, .inr (.inr (.inr (7, [.inr (.inr (some 71)), .inr (.inr (some 72)), .inl (.ofNat 2, .ofNat 5), .inl (.ofNat 2, .ofNat 5), .inl (.ofNat 0, .ofNat 5), .inr (.inr (some 73)), .inl (.ofNat 2, .ofNat 5), .inl (.ofNat 2, .ofNat 5), .inl (.ofNat 0, .ofNat 5), .inl am_top, .inl am_top, .inl am_top, .inr (.inr (some 74)), .inl (.ofNat 0, .ofNat 160), .inl (.ofNat (s + 1), .ofNat 160), .inl (.ofNat 0, .ofNat 160), .inl (.ofNat 1, .ofNat 3), .inl am_top, .inl (.ofNat 0, .ofNat 0), .inl am_top, .inr (.inr (some 75)), .inr (.inr (some 76)), .inr (.inr (some 77)), .inr (.inr (some 78)), .inr (.inr (some 79)), .inr (.inr (some 80)), .inr (.inr (some 81)), .inl (.negSucc 0, .ofNat 6), .inr (.inr (some 82)), .inr (.inr (some 83)), .inr (.inr (some 84)), .inr (.inr (some 85)), .inr (.inr (some 86)), .inl am_top, .inr (.inr (some 87))]))))]))]
noncomputable def vk_F_rlo_5 (s : Nat) : List vm_U := [(q_521, true, []), ((q_F_readOne (s + 0)), false, [(7, 62, 6), (7, 62, 7)])]
noncomputable def vf_F_rlo_5 (s : Nat) : List ((Nat → am_I) → vm_A) := [fun v => (0, [(0, .inr (.inr (some 70))), (1, .inl (.ofNat 5, .ofNat 5))], [], (80, [(62, .inr (.inr (.inr (7, [.inr (.inr (some 71)), .inr (.inr (some 72)), .inl (.ofNat 2, .ofNat 5), .inl (.ofNat 2, .ofNat 5), .inl (.ofNat 0, .ofNat 5), .inr (.inr (some 73)), .inl (.ofNat 2, .ofNat 5), .inl (.ofNat 2, .ofNat 5), .inl (.ofNat 0, .ofNat 4), .inl am_top, .inl am_top, .inl am_top, .inr (.inr (some 74)), .inl (.ofNat 0, .ofNat 160), .inl (.ofNat (s + 0), .ofNat 160), .inl (.ofNat 0, .ofNat 160), .inl (.ofNat 0, .ofNat 3), .inl am_top, .inl (.ofNat 0, .ofNat 0), .inl am_top, .inr (.inr (some 75)), .inr (.inr (some 76)), .inr (.inr (some 77)), .inr (.inr (some 78)), .inr (.inr (some 79)), .inr (.inr (some 80)), .inr (.inr (some 81)), .inl (.negSucc 0, .ofNat 6), .inr (.inr (some 82)), .inr (.inr (some 83)), .inr (.inr (some 84)), .inr (.inr (some 85)), .inr (.inr (some 86)), .inl am_top, .inr (.inr (some 87))]))))]))]
noncomputable def vd_F_rlo_5_0_0 (s : Nat) : List (List Nat) := [[0]]
noncomputable def vd_F_rlo_5_0 (s : Nat) : List (List (List Nat)) := [vd_F_rlo_5_0_0 s]
noncomputable def vd_F_rlo_5 (s : Nat) : List (List (List (List Nat))) := [vd_F_rlo_5_0 s]
noncomputable def vt_F_rlo_5 (s : Nat) : List (List am_I) := []
noncomputable def vc_F_rlo_5 (s : Nat) : vm_C := (fun _ => vp_F_rlo_5 s, fun pc => [], [69], 1, vm_inst 8 1 (vt_F_rlo_5 s) (vf_F_rlo_5 s) (vd_F_rlo_5 s))
noncomputable def ve_F_rlo_5 (s : Nat) : List vm_E := [([.inr (.inr (some 70)), .inl (.ofNat 5, .ofNat 5)], (80, [(62, .inr (.inr (.inr (7, [.inr (.inr (some 71)), .inr (.inr (some 72)), .inl (.ofNat 2, .ofNat 5), .inl (.ofNat 2, .ofNat 5), .inl (.ofNat 0, .ofNat 5), .inr (.inr (some 73)), .inl (.ofNat 2, .ofNat 5), .inl (.ofNat 2, .ofNat 5), .inl (.ofNat 0, .ofNat 4), .inl am_top, .inl am_top, .inl am_top, .inr (.inr (some 74)), .inl (.ofNat 0, .ofNat 160), .inl (.ofNat (s + 0), .ofNat 160), .inl (.ofNat 0, .ofNat 160), .inl (.ofNat 0, .ofNat 3), .inl am_top, .inl (.ofNat 0, .ofNat 0), .inl am_top, .inr (.inr (some 75)), .inr (.inr (some 76)), .inr (.inr (some 77)), .inr (.inr (some 78)), .inr (.inr (some 79)), .inr (.inr (some 80)), .inr (.inr (some 81)), .inl (.negSucc 0, .ofNat 6), .inr (.inr (some 82)), .inr (.inr (some 83)), .inr (.inr (some 84)), .inr (.inr (some 85)), .inr (.inr (some 86)), .inl am_top, .inr (.inr (some 87))]))))]), 0, [0])]
noncomputable def q_F_rlo_5 (s : Nat) : vm_Q := (159, [.inr (.inr (some 70)), .inl (.ofNat 5, .ofNat 5)], (80, [(62, .inr (.inr (.inr (7, [.inr (.inr (some 71)), .inr (.inr (some 72)), .inl (.ofNat 2, .ofNat 5), .inl (.ofNat 2, .ofNat 5), .inl (.ofNat 0, .ofNat 5), .inr (.inr (some 73)), .inl (.ofNat 2, .ofNat 5), .inl (.ofNat 2, .ofNat 5), .inl (.ofNat 0, .ofNat 4), .inl am_top, .inl am_top, .inl am_top, .inr (.inr (some 74)), .inl (.ofNat 0, .ofNat 160), .inl (.ofNat (s + 0), .ofNat 160), .inl (.ofNat 0, .ofNat 160), .inl (.ofNat 0, .ofNat 3), .inl am_top, .inl (.ofNat 0, .ofNat 0), .inl am_top, .inr (.inr (some 75)), .inr (.inr (some 76)), .inr (.inr (some 77)), .inr (.inr (some 78)), .inr (.inr (some 79)), .inr (.inr (some 80)), .inr (.inr (some 81)), .inl (.negSucc 0, .ofNat 6), .inr (.inr (some 82)), .inr (.inr (some 83)), .inr (.inr (some 84)), .inr (.inr (some 85)), .inr (.inr (some 86)), .inl am_top, .inr (.inr (some 87))]))))]), vp_F_rlo_5 s)
theorem vx_F_rlo_5_0 : vm_rng (fun s => vm_chk bt_159 [] (vk_F_rlo_5 s) 13 (vc_F_rlo_5 s) 0 1 && (vm_ents 159 13 (vc_F_rlo_5 s) (ve_F_rlo_5 s) && vm_kok (vk_F_rlo_5 s))) 1 14 = true := by decide +kernel
theorem vx_F_rlo_5_1 : vm_rng (fun s => vm_chk bt_159 [] (vk_F_rlo_5 s) 13 (vc_F_rlo_5 s) 0 1 && (vm_ents 159 13 (vc_F_rlo_5 s) (ve_F_rlo_5 s) && vm_kok (vk_F_rlo_5 s))) 15 14 = true := by decide +kernel
theorem vx_F_rlo_5_2 : vm_rng (fun s => vm_chk bt_159 [] (vk_F_rlo_5 s) 13 (vc_F_rlo_5 s) 0 1 && (vm_ents 159 13 (vc_F_rlo_5 s) (ve_F_rlo_5 s) && vm_kok (vk_F_rlo_5 s))) 29 14 = true := by decide +kernel
theorem vx_F_rlo_5_3 : vm_rng (fun s => vm_chk bt_159 [] (vk_F_rlo_5 s) 13 (vc_F_rlo_5 s) 0 1 && (vm_ents 159 13 (vc_F_rlo_5 s) (ve_F_rlo_5 s) && vm_kok (vk_F_rlo_5 s))) 43 14 = true := by decide +kernel
theorem vx_F_rlo_5_4 : vm_rng (fun s => vm_chk bt_159 [] (vk_F_rlo_5 s) 13 (vc_F_rlo_5 s) 0 1 && (vm_ents 159 13 (vc_F_rlo_5 s) (ve_F_rlo_5 s) && vm_kok (vk_F_rlo_5 s))) 57 14 = true := by decide +kernel
theorem vx_F_rlo_5_5 : vm_rng (fun s => vm_chk bt_159 [] (vk_F_rlo_5 s) 13 (vc_F_rlo_5 s) 0 1 && (vm_ents 159 13 (vc_F_rlo_5 s) (ve_F_rlo_5 s) && vm_kok (vk_F_rlo_5 s))) 71 14 = true := by decide +kernel
theorem vx_F_rlo_5_6 : vm_rng (fun s => vm_chk bt_159 [] (vk_F_rlo_5 s) 13 (vc_F_rlo_5 s) 0 1 && (vm_ents 159 13 (vc_F_rlo_5 s) (ve_F_rlo_5 s) && vm_kok (vk_F_rlo_5 s))) 85 14 = true := by decide +kernel
theorem vx_F_rlo_5_7 : vm_rng (fun s => vm_chk bt_159 [] (vk_F_rlo_5 s) 13 (vc_F_rlo_5 s) 0 1 && (vm_ents 159 13 (vc_F_rlo_5 s) (ve_F_rlo_5 s) && vm_kok (vk_F_rlo_5 s))) 99 14 = true := by decide +kernel
theorem vx_F_rlo_5_8 : vm_rng (fun s => vm_chk bt_159 [] (vk_F_rlo_5 s) 13 (vc_F_rlo_5 s) 0 1 && (vm_ents 159 13 (vc_F_rlo_5 s) (ve_F_rlo_5 s) && vm_kok (vk_F_rlo_5 s))) 113 14 = true := by decide +kernel
theorem vx_F_rlo_5_9 : vm_rng (fun s => vm_chk bt_159 [] (vk_F_rlo_5 s) 13 (vc_F_rlo_5 s) 0 1 && (vm_ents 159 13 (vc_F_rlo_5 s) (ve_F_rlo_5 s) && vm_kok (vk_F_rlo_5 s))) 127 14 = true := by decide +kernel
theorem vx_F_rlo_5_10 : vm_rng (fun s => vm_chk bt_159 [] (vk_F_rlo_5 s) 13 (vc_F_rlo_5 s) 0 1 && (vm_ents 159 13 (vc_F_rlo_5 s) (ve_F_rlo_5 s) && vm_kok (vk_F_rlo_5 s))) 141 14 = true := by decide +kernel
theorem vx_F_rlo_5_11 : vm_rng (fun s => vm_chk bt_159 [] (vk_F_rlo_5 s) 13 (vc_F_rlo_5 s) 0 1 && (vm_ents 159 13 (vc_F_rlo_5 s) (ve_F_rlo_5 s) && vm_kok (vk_F_rlo_5 s))) 155 3 = true := by decide +kernel
set_option maxRecDepth 20000 in
theorem vz_F_rlo_5 (s : Nat) (h1 : 1 ≤ s) (h2 : s < 158) : (vm_chk bt_159 [] (vk_F_rlo_5 s) 13 (vc_F_rlo_5 s) 0 1 && (vm_ents 159 13 (vc_F_rlo_5 s) (ve_F_rlo_5 s) && vm_kok (vk_F_rlo_5 s))) = true := by
  by_cases g0 : s < 15
  · exact vm_rng_ok vx_F_rlo_5_0 s (by omega) (by omega)
  by_cases g1 : s < 29
  · exact vm_rng_ok vx_F_rlo_5_1 s (by omega) (by omega)
  by_cases g2 : s < 43
  · exact vm_rng_ok vx_F_rlo_5_2 s (by omega) (by omega)
  by_cases g3 : s < 57
  · exact vm_rng_ok vx_F_rlo_5_3 s (by omega) (by omega)
  by_cases g4 : s < 71
  · exact vm_rng_ok vx_F_rlo_5_4 s (by omega) (by omega)
  by_cases g5 : s < 85
  · exact vm_rng_ok vx_F_rlo_5_5 s (by omega) (by omega)
  by_cases g6 : s < 99
  · exact vm_rng_ok vx_F_rlo_5_6 s (by omega) (by omega)
  by_cases g7 : s < 113
  · exact vm_rng_ok vx_F_rlo_5_7 s (by omega) (by omega)
  by_cases g8 : s < 127
  · exact vm_rng_ok vx_F_rlo_5_8 s (by omega) (by omega)
  by_cases g9 : s < 141
  · exact vm_rng_ok vx_F_rlo_5_9 s (by omega) (by omega)
  by_cases g10 : s < 155
  · exact vm_rng_ok vx_F_rlo_5_10 s (by omega) (by omega)
  exact vm_rng_ok vx_F_rlo_5_11 s (by omega) (by omega)
theorem v_F_rlo_5 (s : Nat) (h1 : 1 ≤ s) (h2 : s < 158) : vm_at 6 (q_F_rlo_5 s) := by
  have h := vz_F_rlo_5 s h1 h2
  rw [Bool.and_eq_true, Bool.and_eq_true] at h
  exact vm_ok (inl := []) (es := ve_F_rlo_5 s) bq_159 (by decide) (vm_wts (L := 5) (vm_kc (vm_up v_521 rfl) (vm_kc (vm_up (v_F_readOne (s + 0) (by omega) (by omega)) rfl) vm_kn)) h.2.2) h.2.1 (fun i => vm_hc h.1 rfl (fun h => absurd h (Nat.not_lt_zero _))) _ List.mem_cons_self
noncomputable def vp_948 : List vm_R := [(none, va_h168)]
noncomputable def ve_948 : List vm_E := [([.inr (.inr (some 70))], va_h347, 0, [0, 41])]
noncomputable def q_948 : vm_Q := (155, [.inr (.inr (some 70))], va_h347, vp_948)
noncomputable def vk_948 : List vm_U := [((qj_898 160), false, [(7, 62, 6), (7, 62, 7), (7, 62, 8)]), (q_899, false, [(7, 62, 8)]), (q_830, false, [(7, 62, 8), (7, 62, 14), (7, 62, 16)]), (q_832, false, [(7, 62, 8), (7, 62, 14), (7, 62, 16)]), (q_842, false, [(7, 62, 8), (7, 62, 14), (7, 62, 16)]), (q_844, false, [(7, 62, 8), (7, 62, 14), (7, 62, 16)]), (q_848, false, [(7, 62, 8), (7, 62, 14), (7, 62, 16)]), (q_850, false, [(7, 62, 8), (7, 62, 14), (7, 62, 16)]), (q_851, false, [(7, 62, 6), (7, 62, 7), (7, 62, 8), (7, 62, 14), (7, 62, 16)]), (q_917, true, []), (q_941, false, []), (q_942, false, []), (q_943, false, []), (q_944, false, []), (q_945, false, []), (q_946, false, []), (q_947, false, [])]
noncomputable def vf_948 : List ((Nat → am_I) → vm_A) := [fun v => (0, [(0, .inr (.inr (some 70)))], [], (80, [(62, .inr (.inr (.inr (7, [.inr (.inr (some 71)), .inr (.inr (some 72)), .inl (.ofNat 2, .ofNat 5), .inl (.ofNat 2, .ofNat 5), .inl (.ofNat 0, .ofNat 5), .inr (.inr (some 73)), .inl (.ofNat 2, .ofNat 5), .inl (.ofNat 2, .ofNat 5), .inl (v 0), .inl am_top, .inl am_top, .inl am_top, .inr (.inr (some 74)), .inl (.ofNat 0, .ofNat 160), .inl (.ofNat 160, .ofNat 160), .inl (.ofNat 0, .ofNat 160), .inl (.ofNat 1, .ofNat 3), .inl am_top, .inl (.ofNat 0, .ofNat 0), .inl am_top, .inr (.inr (some 75)), .inr (.inr (some 76)), .inr (.inr (some 77)), .inr (.inr (some 78)), .inr (.inr (some 79)), .inr (.inr (some 80)), .inr (.inr (some 81)), .inl (.negSucc 0, .ofNat 6), .inr (.inr (some 82)), .inr (.inr (some 83)), .inr (.inr (some 84)), .inr (.inr (some 85)), .inr (.inr (some 86)), .inl am_top, .inr (.inr (some 87))]))))])), fun v => (18, [(0, .inr (.inr (some 70))), (1, .inl (v 0))], [], (80, [(62, .inr (.inr (.inr (7, [.inr (.inr (some 71)), .inr (.inr (some 72)), .inl (.ofNat 2, .ofNat 5), .inl (.ofNat 2, .ofNat 5), .inl (.ofNat 0, .ofNat 5), .inr (.inr (some 73)), .inl (.ofNat 2, .ofNat 5), .inl (.ofNat 2, .ofNat 5), .inl (v 1), .inl am_top, .inl am_top, .inl am_top, .inr (.inr (some 74)), .inl (.ofNat 0, .ofNat 160), .inl (.ofNat 160, .ofNat 160), .inl (.ofNat 0, .ofNat 160), .inl (.ofNat 1, .ofNat 3), .inl am_top, .inl (.ofNat 0, .ofNat 0), .inl am_top, .inr (.inr (some 75)), .inr (.inr (some 76)), .inr (.inr (some 77)), .inr (.inr (some 78)), .inr (.inr (some 79)), .inr (.inr (some 80)), .inr (.inr (some 81)), .inl (.negSucc 0, .ofNat 6), .inr (.inr (some 82)), .inr (.inr (some 83)), .inr (.inr (some 84)), .inr (.inr (some 85)), .inr (.inr (some 86)), .inl am_top, .inr (.inr (some 87))]))))])), fun v => (62, [(0, .inr (.inr (some 70))), (1, .inl (v 0))], [], (80, [(62, .inr (.inr (.inr (7, [.inr (.inr (some 71)), .inr (.inr (some 72)), .inl (.ofNat 2, .ofNat 5), .inl (.ofNat 2, .ofNat 5), .inl (.ofNat 0, .ofNat 5), .inr (.inr (some 73)), .inl (v 1), .inl (v 2), .inl (v 3), .inl am_top, .inl am_top, .inl am_top, .inr (.inr (some 74)), .inl (.ofNat 0, .ofNat 160), .inl (.ofNat 160, .ofNat 160), .inl (.ofNat 0, .ofNat 160), .inl (.ofNat 1, .ofNat 3), .inl am_top, .inl (v 4), .inl am_top, .inr (.inr (some 75)), .inr (.inr (some 76)), .inr (.inr (some 77)), .inr (.inr (some 78)), .inr (.inr (some 79)), .inr (.inr (some 80)), .inr (.inr (some 81)), .inl (.negSucc 0, .ofNat 6), .inr (.inr (some 82)), .inr (.inr (some 83)), .inr (.inr (some 84)), .inr (.inr (some 85)), .inr (.inr (some 86)), .inl am_top, .inr (.inr (some 87))]))))])), fun v => (107, [(0, .inr (.inr (some 70))), (1, .inl (v 0))], [], (80, [(62, .inr (.inr (.inr (7, [.inr (.inr (some 71)), .inr (.inr (some 72)), .inl (.ofNat 2, .ofNat 5), .inl (.ofNat 2, .ofNat 5), .inl (.ofNat 0, .ofNat 5), .inr (.inr (some 73)), .inl (v 1), .inl (v 2), .inl (v 3), .inl am_top, .inl am_top, .inl am_top, .inr (.inr (some 74)), .inl (.ofNat 0, .ofNat 160), .inl (.ofNat 160, .ofNat 160), .inl (.ofNat 0, .ofNat 160), .inl (.ofNat 1, .ofNat 3), .inl am_top, .inl (v 4), .inl am_top, .inr (.inr (some 75)), .inr (.inr (some 76)), .inr (.inr (some 77)), .inr (.inr (some 78)), .inr (.inr (some 79)), .inr (.inr (some 80)), .inr (.inr (some 81)), .inl (.negSucc 0, .ofNat 6), .inr (.inr (some 82)), .inr (.inr (some 83)), .inr (.inr (some 84)), .inr (.inr (some 85)), .inr (.inr (some 86)), .inl am_top, .inr (.inr (some 87))]))))])), fun v => (111, [(0, .inr (.inr (some 70))), (1, .inl (v 0))], [], (80, [(62, .inr (.inr (.inr (7, [.inr (.inr (some 71)), .inr (.inr (some 72)), .inl (.ofNat 2, .ofNat 5), .inl (.ofNat 2, .ofNat 5), .inl (.ofNat 0, .ofNat 5), .inr (.inr (some 73)), .inl (v 1), .inl (v 2), .inl (v 3), .inl am_top, .inl am_top, .inl am_top, .inr (.inr (some 74)), .inl (.ofNat 0, .ofNat 160), .inl (v 4), .inl (.ofNat 0, .ofNat 160), .inl (v 5), .inl am_top, .inl (v 6), .inl am_top, .inr (.inr (some 75)), .inr (.inr (some 76)), .inr (.inr (some 77)), .inr (.inr (some 78)), .inr (.inr (some 79)), .inr (.inr (some 80)), .inr (.inr (some 81)), .inl (.negSucc 0, .ofNat 6), .inr (.inr (some 82)), .inr (.inr (some 83)), .inr (.inr (some 84)), .inr (.inr (some 85)), .inr (.inr (some 86)), .inl am_top, .inr (.inr (some 87))]))))])), fun v => (124, [(0, .inr (.inr (some 70))), (1, .inl am_top)], [], (80, [(62, .inr (.inr (.inr (7, [.inr (.inr (some 71)), .inr (.inr (some 72)), .inl (.ofNat 2, .ofNat 5), .inl (.ofNat 2, .ofNat 5), .inl (.ofNat 0, .ofNat 5), .inr (.inr (some 73)), .inl (v 0), .inl (v 1), .inl (.ofNat 0, .ofNat 5), .inl am_top, .inl am_top, .inl am_top, .inr (.inr (some 74)), .inl (.ofNat 0, .ofNat 160), .inl (v 2), .inl (.ofNat 0, .ofNat 160), .inl (v 3), .inl am_top, .inl (v 4), .inl am_top, .inr (.inr (some 75)), .inr (.inr (some 76)), .inr (.inr (some 77)), .inr (.inr (some 78)), .inr (.inr (some 79)), .inr (.inr (some 80)), .inr (.inr (some 81)), .inl (.negSucc 0, .ofNat 6), .inr (.inr (some 82)), .inr (.inr (some 83)), .inr (.inr (some 84)), .inr (.inr (some 85)), .inr (.inr (some 86)), .inl am_top, .inr (.inr (some 87))]))))])), fun v => (149, [(0, .inr (.inr (some 70))), (1, .inl am_top)], [], (80, [(62, .inr (.inr (.inr (7, [.inr (.inr (some 71)), .inr (.inr (some 72)), .inl (.ofNat 2, .ofNat 5), .inl (.ofNat 2, .ofNat 5), .inl (.ofNat 0, .ofNat 5), .inr (.inr (some 73)), .inl (.ofNat 0, .ofNat 5), .inl (.ofNat 0, .ofNat 5), .inl (.ofNat 0, .ofNat 5), .inl am_top, .inl am_top, .inl am_top, .inr (.inr (some 74)), .inl (.ofNat 0, .ofNat 160), .inl (v 0), .inl (.ofNat 0, .ofNat 160), .inl (v 1), .inl am_top, .inl (v 2), .inl am_top, .inr (.inr (some 75)), .inr (.inr (some 76)), .inr (.inr (some 77)), .inr (.inr (some 78)), .inr (.inr (some 79)), .inr (.inr (some 80)), .inr (.inr (some 81)), .inl (.negSucc 0, .ofNat 6), .inr (.inr (some 82)), .inr (.inr (some 83)), .inr (.inr (some 84)), .inr (.inr (some 85)), .inr (.inr (some 86)), .inl am_top, .inr (.inr (some 87))]))))]))]
noncomputable def vd_948_0_0 : List (List Nat) := [[1588670660654718436969545728, 5501853171713, 104024989721740574722, 74193606485427159043, 104024989721740574723, 782283039082810433339396, 755682662249201274060804, 5506148139009], [104024990821252202498, 74193606489722126339, 104024990821252202499, 782283039082810450116612, 755682662250274915221508, 5510443106305, 406347624673771522, 104024991920763830275], [782283039082810466893828, 755682662251352868126724, 5514738073601, 92640350572004835330, 92640350572004835331, 782283039082810483671044, 5519033040897, 92640350576299802626], [92640350576299802627, 782283039082810500448260, 5523328008193, 406347637558673410, 104024995219298713603, 782283039082810517225476, 755682662254595350331396, 6193342906369], [3044119403044137926658, 3044119403044137926659, 782283039082813134471172, 5497558204417, 104024988622228946946, 74193606481132191747, 104024988622228946947, 782283039082810416562180], [755682662247955163119620, 49870759526122289897132261376, 177025667104769, 2981717065220430626818, 85434591155343917059, 2981717065220430626819, 782283082992906800201732, 758560354324523182587908], [177029962072065, 2981717066319942254594, 85434591159638884355, 2981717066319942254595, 782283082992906816978948, 758560354325596823748612, 177034257039361, 11647332294590529538], [2981717067419453882371, 782283082992906833756164, 758560354326674776653828, 177038552006657, 11647332298885496834, 2981717068518965510147, 782283082992906850533380, 758560354327752729559044]]
noncomputable def vd_948_0_1 : List (List Nat) := [[177042846973953, 11647332303180464130, 2981717069618477137923, 782283082992906867310596, 758560354328830682464260, 177047141941249, 11647332307475431426, 2981717070717988765699], [782283082992906884087812, 758560354329908635369476, 177717156839425, 3055360387714054684674, 3055360387714054684675, 782283082992909501333508, 177021372137473, 2981717064120918999042], [85434591151048949763, 2981717064120918999043, 782283082992906783424516, 758560354323268448157700, 45215916748767237, 2201707610118, 3055793296236825608197, 182139463139334]]
noncomputable def vd_948_0 : List (List (List Nat)) := [vd_948_0_0, vd_948_0_1]
noncomputable def vd_948 : List (List (List (List Nat))) := [vd_948_0]
noncomputable def vt_948 : List (List am_I) := [[(.ofNat 0, .ofNat 4), (.negSucc 3, .negSucc 3), (.ofNat 2, .ofNat 5), (.ofNat 0, .ofNat 5), (.ofNat 1, .ofNat 6), (.ofNat 0, .ofNat 160), (.ofNat 0, .ofNat 3)]]
noncomputable def vc_948 : vm_C := (fun _ => vp_948, fun pc => (match Nat.beq pc 0 with
  | true => [(fun _ _ => some (.inr (62, 8)), fun _ _ => some [.ofNat 5])]
  | false => (match Nat.beq pc 18 with
  | true => [(fun _ _ => some (.inl 1), fun _ _ => some [.ofNat 0, .ofNat 1, .ofNat 2, .ofNat 3, .ofNat 4, .ofNat 5, .ofNat 6, .ofNat 7])]
  | false => [])), [18, 62, 107, 111, 124, 149], 88, vm_inst 8 161 vt_948 vf_948 vd_948)
theorem vx_948_0 : vm_chk bt_155 [] vk_948 29 vc_948 0 12 = true := by decide +kernel
theorem vx_948_1 : vm_chk bt_155 [] vk_948 29 vc_948 12 16 = true := by decide +kernel
theorem vx_948_2 : vm_chk bt_155 [] vk_948 29 vc_948 28 15 = true := by decide +kernel
theorem vx_948_3 : vm_chk bt_155 [] vk_948 29 vc_948 43 14 = true := by decide +kernel
theorem vx_948_4 : vm_chk bt_155 [] vk_948 29 vc_948 57 17 = true := by decide +kernel
theorem vx_948_5 : vm_chk bt_155 [] vk_948 29 vc_948 74 14 = true := by decide +kernel
theorem vy_948 : vm_ents 155 29 vc_948 ve_948 = true := by decide +kernel
theorem vw_948 : ∀ q ∈ vk_948, vm_wt 6 q := vm_wts (vm_kc (vm_up (vj_898 160 (by decide)) rfl) (vm_kc (vm_up v_899 rfl) (vm_kc (vm_up v_830 rfl) (vm_kc (vm_up v_832 rfl) (vm_kc (vm_up v_842 rfl) (vm_kc (vm_up v_844 rfl) (vm_kc (vm_up v_848 rfl) (vm_kc (vm_up v_850 rfl) (vm_kc (vm_up v_851 rfl) (vm_kc (vm_up v_917 rfl) (vm_kc (vm_up v_941 rfl) (vm_kc (vm_up v_942 rfl) (vm_kc (vm_up v_943 rfl) (vm_kc (vm_up v_944 rfl) (vm_kc (vm_up v_945 rfl) (vm_kc (vm_up v_946 rfl) (vm_kc (vm_up v_947 rfl) vm_kn))))))))))))))))) (by decide +kernel)
theorem v_948 : vm_at 7 q_948 := vm_ok (inl := []) (es := ve_948) bq_155 (by decide) vw_948 vy_948 (fun i => vm_hc vx_948_5 rfl (vm_hc vx_948_4 rfl (vm_hc vx_948_3 rfl (vm_hc vx_948_2 rfl (vm_hc vx_948_1 rfl (vm_hc vx_948_0 rfl (fun h => absurd h (Nat.not_lt_zero _)))))))) _ List.mem_cons_self
noncomputable def vp_964 : List vm_R := [(none, va_h168), (none, va_h342)]
noncomputable def ve_964 : List vm_E := [([.inr (.inr (some 70))], va_h350, 0, [0, 46])]
noncomputable def q_964 : vm_Q := (155, [.inr (.inr (some 70))], va_h350, vp_964)
noncomputable def vk_964 : List vm_U := [((qj_898 160), false, [(7, 62, 6), (7, 62, 7)]), ((qj_898 159), false, [(7, 62, 6), (7, 62, 7), (7, 62, 8)]), (q_899, false, [(7, 62, 8)]), (q_830, false, [(7, 62, 8), (7, 62, 14), (7, 62, 16)]), (q_832, false, [(7, 62, 8), (7, 62, 14), (7, 62, 16)]), (q_842, false, [(7, 62, 8), (7, 62, 14), (7, 62, 16)]), (q_844, false, [(7, 62, 8), (7, 62, 14), (7, 62, 16)]), (q_848, false, [(7, 62, 8), (7, 62, 14), (7, 62, 16)]), (q_850, false, [(7, 62, 8), (7, 62, 14), (7, 62, 16)]), (q_851, false, [(7, 62, 6), (7, 62, 7), (7, 62, 8), (7, 62, 14), (7, 62, 16)]), (q_917, true, []), (q_941, false, []), (q_942, false, []), (q_943, false, []), (q_944, false, []), (q_945, false, []), (q_946, false, []), (q_947, false, []), (q_957, false, []), (q_958, false, []), ((q_F_rlo_2 159), false, []), ((q_F_rlo_3 159), false, []), (q_961, false, []), (q_962, false, []), (q_963, false, [])]
noncomputable def vf_964 : List ((Nat → am_I) → vm_A) := [fun v => (0, [(0, .inr (.inr (some 70)))], [], (80, [(62, .inr (.inr (.inr (7, [.inr (.inr (some 71)), .inr (.inr (some 72)), .inl (.ofNat 2, .ofNat 5), .inl (.ofNat 2, .ofNat 5), .inl (.ofNat 0, .ofNat 5), .inr (.inr (some 73)), .inl (.ofNat 2, .ofNat 5), .inl (.ofNat 2, .ofNat 5), .inl (v 0), .inl am_top, .inl am_top, .inl am_top, .inr (.inr (some 74)), .inl (.ofNat 0, .ofNat 160), .inl (.ofNat 159, .ofNat 160), .inl (.ofNat 0, .ofNat 160), .inl (.ofNat 1, .ofNat 3), .inl am_top, .inl (.ofNat 0, .ofNat 0), .inl am_top, .inr (.inr (some 75)), .inr (.inr (some 76)), .inr (.inr (some 77)), .inr (.inr (some 78)), .inr (.inr (some 79)), .inr (.inr (some 80)), .inr (.inr (some 81)), .inl (.negSucc 0, .ofNat 6), .inr (.inr (some 82)), .inr (.inr (some 83)), .inr (.inr (some 84)), .inr (.inr (some 85)), .inr (.inr (some 86)), .inl am_top, .inr (.inr (some 87))]))))])), fun v => (18, [(0, .inr (.inr (some 70))), (1, .inl (v 0))], [], (80, [(62, .inr (.inr (.inr (7, [.inr (.inr (some 71)), .inr (.inr (some 72)), .inl (.ofNat 2, .ofNat 5), .inl (.ofNat 2, .ofNat 5), .inl (.ofNat 0, .ofNat 5), .inr (.inr (some 73)), .inl (.ofNat 2, .ofNat 5), .inl (.ofNat 2, .ofNat 5), .inl (v 1), .inl am_top, .inl am_top, .inl am_top, .inr (.inr (some 74)), .inl (.ofNat 0, .ofNat 160), .inl (.ofNat 159, .ofNat 160), .inl (.ofNat 0, .ofNat 160), .inl (.ofNat 1, .ofNat 3), .inl am_top, .inl (.ofNat 0, .ofNat 0), .inl am_top, .inr (.inr (some 75)), .inr (.inr (some 76)), .inr (.inr (some 77)), .inr (.inr (some 78)), .inr (.inr (some 79)), .inr (.inr (some 80)), .inr (.inr (some 81)), .inl (.negSucc 0, .ofNat 6), .inr (.inr (some 82)), .inr (.inr (some 83)), .inr (.inr (some 84)), .inr (.inr (some 85)), .inr (.inr (some 86)), .inl am_top, .inr (.inr (some 87))]))))])), fun v => (62, [(0, .inr (.inr (some 70))), (1, .inl (v 0))], [], (80, [(62, .inr (.inr (.inr (7, [.inr (.inr (some 71)), .inr (.inr (some 72)), .inl (.ofNat 2, .ofNat 5), .inl (.ofNat 2, .ofNat 5), .inl (.ofNat 0, .ofNat 5), .inr (.inr (some 73)), .inl (v 1), .inl (v 2), .inl (v 3), .inl am_top, .inl am_top, .inl am_top, .inr (.inr (some 74)), .inl (.ofNat 0, .ofNat 160), .inl (.ofNat 159, .ofNat 160), .inl (.ofNat 0, .ofNat 160), .inl (.ofNat 1, .ofNat 3), .inl am_top, .inl (v 4), .inl am_top, .inr (.inr (some 75)), .inr (.inr (some 76)), .inr (.inr (some 77)), .inr (.inr (some 78)), .inr (.inr (some 79)), .inr (.inr (some 80)), .inr (.inr (some 81)), .inl (.negSucc 0, .ofNat 6), .inr (.inr (some 82)), .inr (.inr (some 83)), .inr (.inr (some 84)), .inr (.inr (some 85)), .inr (.inr (some 86)), .inl am_top, .inr (.inr (some 87))]))))])), fun v => (107, [(0, .inr (.inr (some 70))), (1, .inl (v 0))], [], (80, [(62, .inr (.inr (.inr (7, [.inr (.inr (some 71)), .inr (.inr (some 72)), .inl (.ofNat 2, .ofNat 5), .inl (.ofNat 2, .ofNat 5), .inl (.ofNat 0, .ofNat 5), .inr (.inr (some 73)), .inl (v 1), .inl (v 2), .inl (v 3), .inl am_top, .inl am_top, .inl am_top, .inr (.inr (some 74)), .inl (.ofNat 0, .ofNat 160), .inl (.ofNat 159, .ofNat 160), .inl (.ofNat 0, .ofNat 160), .inl (.ofNat 1, .ofNat 3), .inl am_top, .inl (v 4), .inl am_top, .inr (.inr (some 75)), .inr (.inr (some 76)), .inr (.inr (some 77)), .inr (.inr (some 78)), .inr (.inr (some 79)), .inr (.inr (some 80)), .inr (.inr (some 81)), .inl (.negSucc 0, .ofNat 6), .inr (.inr (some 82)), .inr (.inr (some 83)), .inr (.inr (some 84)), .inr (.inr (some 85)), .inr (.inr (some 86)), .inl am_top, .inr (.inr (some 87))]))))])), fun v => (111, [(0, .inr (.inr (some 70))), (1, .inl (v 0))], [], (80, [(62, .inr (.inr (.inr (7, [.inr (.inr (some 71)), .inr (.inr (some 72)), .inl (.ofNat 2, .ofNat 5), .inl (.ofNat 2, .ofNat 5), .inl (.ofNat 0, .ofNat 5), .inr (.inr (some 73)), .inl (v 1), .inl (v 2), .inl (v 3), .inl am_top, .inl am_top, .inl am_top, .inr (.inr (some 74)), .inl (.ofNat 0, .ofNat 160), .inl (v 4), .inl (.ofNat 0, .ofNat 160), .inl (v 5), .inl am_top, .inl (v 6), .inl am_top, .inr (.inr (some 75)), .inr (.inr (some 76)), .inr (.inr (some 77)), .inr (.inr (some 78)), .inr (.inr (some 79)), .inr (.inr (some 80)), .inr (.inr (some 81)), .inl (.negSucc 0, .ofNat 6), .inr (.inr (some 82)), .inr (.inr (some 83)), .inr (.inr (some 84)), .inr (.inr (some 85)), .inr (.inr (some 86)), .inl am_top, .inr (.inr (some 87))]))))])), fun v => (124, [(0, .inr (.inr (some 70))), (1, .inl am_top)], [], (80, [(62, .inr (.inr (.inr (7, [.inr (.inr (some 71)), .inr (.inr (some 72)), .inl (.ofNat 2, .ofNat 5), .inl (.ofNat 2, .ofNat 5), .inl (.ofNat 0, .ofNat 5), .inr (.inr (some 73)), .inl (v 0), .inl (v 1), .inl (.ofNat 0, .ofNat 5), .inl am_top, .inl am_top, .inl am_top, .inr (.inr (some 74)), .inl (.ofNat 0, .ofNat 160), .inl (v 2), .inl (.ofNat 0, .ofNat 160), .inl (v 3), .inl am_top, .inl (v 4), .inl am_top, .inr (.inr (some 75)), .inr (.inr (some 76)), .inr (.inr (some 77)), .inr (.inr (some 78)), .inr (.inr (some 79)), .inr (.inr (some 80)), .inr (.inr (some 81)), .inl (.negSucc 0, .ofNat 6), .inr (.inr (some 82)), .inr (.inr (some 83)), .inr (.inr (some 84)), .inr (.inr (some 85)), .inr (.inr (some 86)), .inl am_top, .inr (.inr (some 87))]))))])), fun v => (149, [(0, .inr (.inr (some 70))), (1, .inl am_top)], [], (80, [(62, .inr (.inr (.inr (7, [.inr (.inr (some 71)), .inr (.inr (some 72)), .inl (.ofNat 2, .ofNat 5), .inl (.ofNat 2, .ofNat 5), .inl (.ofNat 0, .ofNat 5), .inr (.inr (some 73)), .inl (v 0), .inl (v 1), .inl (.ofNat 0, .ofNat 5), .inl am_top, .inl am_top, .inl am_top, .inr (.inr (some 74)), .inl (.ofNat 0, .ofNat 160), .inl (v 2), .inl (.ofNat 0, .ofNat 160), .inl (v 3), .inl am_top, .inl (v 4), .inl am_top, .inr (.inr (some 75)), .inr (.inr (some 76)), .inr (.inr (some 77)), .inr (.inr (some 78)), .inr (.inr (some 79)), .inr (.inr (some 80)), .inr (.inr (some 81)), .inl (.negSucc 0, .ofNat 6), .inr (.inr (some 82)), .inr (.inr (some 83)), .inr (.inr (some 84)), .inr (.inr (some 85)), .inr (.inr (some 86)), .inl am_top, .inr (.inr (some 87))]))))]))]
noncomputable def vd_964_0_0 : List (List Nat) := [[1593525308956360063740018688, 5501853171713, 104024989721740574722, 74193606485443936259, 26630397369869360365571, 201437368718277721769246724, 782301557884478180818948, 204335093912344846819065860], [5506148139009, 104024990821252202498, 74193606489738903555, 26630397651344337076227, 201437368718278791098662916, 782301557884478197596164, 204335093912618595032170500, 5510443106305], [406347624673771522, 26630397932819313786883, 201437368718279864739823620, 782301557884478214373380, 204335093912893447068647428, 5514738073601, 92640350572004835330, 92640350572004835331], [782301557884478231150596, 5519033040897, 92640350576299802626, 92640350576299802627, 782301557884478247927812, 5523328008193, 406347637558673410, 26630398777244243918851], [201437368718283102910283780, 782301557884478264705028, 204335093913722418471567364, 6193342906369, 3044119403044137926658, 3044119403044137926659, 782301557884480881950724, 5497558204417], [104024988622228946946, 74193606481148968963, 26630397088394383654915, 201437368718276458411327492, 782301557884478164041732, 204335093912021426554208260, 49878041507761672262999605248, 177025667104769], [2981717065220430626818, 85434591155360694275, 763319568697534013702147, 201440246410353022119051268, 782301601794574547681284, 205071783083621735597277188, 177029962072065, 2981717066319942254594], [85434591159655661571, 763319568979008990412803, 201440246410354091448467460, 782301601794574564458500, 205071783083895483810381828, 177034257039361, 11647332294590529538, 763319569260483967123459]]
noncomputable def vd_964_0_1 : List (List Nat) := [[201440246410355165089628164, 782301601794574581235716, 205071783084170335846858756, 177038552006657, 11647332298885496834, 763319569541958943834115, 201440246410356238730788868, 782301601794574598012932], [205071783084445187883335684, 177042846973953, 11647332303180464130, 763319569823433920544771, 201440246410357312371949572, 782301601794574614790148, 205071783084720039919812612, 177047141941249], [11647332307475431426, 763319570104908897255427, 201440246410358386013110276, 782301601794574631567364, 205071783084994891956289540, 177717156839425, 3055360387714054684674, 3055360387714054684675], [782301601794577248813060, 177021372137473, 2981717064120918999042, 85434591151099281411, 763319568418266650181635, 201440246410351741514153988, 45215916748767237, 144291817062400006], [782301601794574530904068, 205071783083291692392185860, 47749191539163141, 144301712667049990, 3073734790927748300805, 191016663196368902, 46901470808768518, 3055865635305840246789], [11936975137913438214]]
noncomputable def vd_964_0 : List (List (List Nat)) := [vd_964_0_0, vd_964_0_1]
noncomputable def vd_964 : List (List (List (List Nat))) := [vd_964_0]
noncomputable def vt_964 : List (List am_I) := [[(.ofNat 0, .ofNat 4), (.negSucc 3, .negSucc 3), (.ofNat 2, .ofNat 5), (.ofNat 0, .ofNat 5), (.ofNat 1, .ofNat 6), (.ofNat 1, .ofNat 3), (.ofNat 0, .ofNat 160), (.ofNat 0, .ofNat 3)], [(.ofNat 159, .ofNat 160)]]
noncomputable def vc_964 : vm_C := (fun _ => vp_964, fun pc => (match Nat.beq pc 0 with
  | true => [(fun _ _ => some (.inr (62, 8)), fun _ _ => some [.ofNat 5])]
  | false => (match Nat.beq pc 18 with
  | true => [(fun _ _ => some (.inl 1), fun _ _ => some [.ofNat 0, .ofNat 1, .ofNat 2, .ofNat 3, .ofNat 4, .ofNat 5, .ofNat 6, .ofNat 7])]
  | false => [])), [18, 62, 107, 111, 124, 149], 105, vm_inst 8 161 vt_964 vf_964 vd_964)
theorem vx_964_0 : vm_chk bt_155 [] vk_964 29 vc_964 0 12 = true := by decide +kernel
theorem vx_964_1 : vm_chk bt_155 [] vk_964 29 vc_964 12 17 = true := by decide +kernel
theorem vx_964_2 : vm_chk bt_155 [] vk_964 29 vc_964 29 15 = true := by decide +kernel
theorem vx_964_3 : vm_chk bt_155 [] vk_964 29 vc_964 44 12 = true := by decide +kernel
theorem vx_964_4 : vm_chk bt_155 [] vk_964 29 vc_964 56 18 = true := by decide +kernel
theorem vx_964_5 : vm_chk bt_155 [] vk_964 29 vc_964 74 17 = true := by decide +kernel
theorem vx_964_6 : vm_chk bt_155 [] vk_964 29 vc_964 91 14 = true := by decide +kernel
theorem vy_964 : vm_ents 155 29 vc_964 ve_964 = true := by decide +kernel
theorem vw_964 : ∀ q ∈ vk_964, vm_wt 6 q := vm_wts (vm_kc (vm_up (vj_898 160 (by decide)) rfl) (vm_kc (vm_up (vj_898 159 (by decide)) rfl) (vm_kc (vm_up v_899 rfl) (vm_kc (vm_up v_830 rfl) (vm_kc (vm_up v_832 rfl) (vm_kc (vm_up v_842 rfl) (vm_kc (vm_up v_844 rfl) (vm_kc (vm_up v_848 rfl) (vm_kc (vm_up v_850 rfl) (vm_kc (vm_up v_851 rfl) (vm_kc (vm_up v_917 rfl) (vm_kc (vm_up v_941 rfl) (vm_kc (vm_up v_942 rfl) (vm_kc (vm_up v_943 rfl) (vm_kc (vm_up v_944 rfl) (vm_kc (vm_up v_945 rfl) (vm_kc (vm_up v_946 rfl) (vm_kc (vm_up v_947 rfl) (vm_kc (vm_up v_957 rfl) (vm_kc (vm_up v_958 rfl) (vm_kc (vm_up (v_F_rlo_2 159 (by decide) (by decide)) rfl) (vm_kc (vm_up (v_F_rlo_3 159 (by decide) (by decide)) rfl) (vm_kc (vm_up v_961 rfl) (vm_kc (vm_up v_962 rfl) (vm_kc (vm_up v_963 rfl) vm_kn))))))))))))))))))))))))) (by decide +kernel)
theorem v_964 : vm_at 7 q_964 := vm_ok (inl := []) (es := ve_964) bq_155 (by decide) vw_964 vy_964 (fun i => vm_hc vx_964_6 rfl (vm_hc vx_964_5 rfl (vm_hc vx_964_4 rfl (vm_hc vx_964_3 rfl (vm_hc vx_964_2 rfl (vm_hc vx_964_1 rfl (vm_hc vx_964_0 rfl (fun h => absurd h (Nat.not_lt_zero _))))))))) _ List.mem_cons_self
noncomputable def vp_980 : List vm_R := [(none, va_h168), (none, va_h346), (none, va_h347)]
noncomputable def ve_980 : List vm_E := [([.inr (.inr (some 70))], va_h356, 0, [0, 46])]
noncomputable def q_980 : vm_Q := (155, [.inr (.inr (some 70))], va_h356, vp_980)
noncomputable def vk_980 : List vm_U := [((qj_898 160), false, [(7, 62, 6), (7, 62, 7)]), ((qj_898 159), false, [(7, 62, 6), (7, 62, 7)]), ((qj_898 158), false, [(7, 62, 6), (7, 62, 7), (7, 62, 8)]), (q_899, false, [(7, 62, 8)]), (q_830, false, [(7, 62, 8), (7, 62, 14), (7, 62, 16)]), (q_832, false, [(7, 62, 8), (7, 62, 14), (7, 62, 16)]), (q_842, false, [(7, 62, 8), (7, 62, 14), (7, 62, 16)]), (q_844, false, [(7, 62, 8), (7, 62, 14), (7, 62, 16)]), (q_848, false, [(7, 62, 8), (7, 62, 14), (7, 62, 16)]), (q_850, false, [(7, 62, 8), (7, 62, 14), (7, 62, 16)]), (q_851, false, [(7, 62, 6), (7, 62, 7), (7, 62, 8), (7, 62, 14), (7, 62, 16)]), (q_917, true, []), (q_957, false, []), (q_958, false, []), ((q_F_rlo_2 159), false, []), ((q_F_rlo_3 159), false, []), (q_961, false, []), (q_962, false, []), (q_963, false, []), ((q_F_rlo_0 158), false, []), (q_974, false, []), ((q_F_rlo_2 158), false, []), ((q_F_rlo_3 158), false, []), (q_977, false, []), (q_978, false, []), (q_979, false, [])]
noncomputable def vf_980 : List ((Nat → am_I) → vm_A) := [fun v => (0, [(0, .inr (.inr (some 70)))], [], (80, [(62, .inr (.inr (.inr (7, [.inr (.inr (some 71)), .inr (.inr (some 72)), .inl (.ofNat 2, .ofNat 5), .inl (.ofNat 2, .ofNat 5), .inl (.ofNat 0, .ofNat 5), .inr (.inr (some 73)), .inl (.ofNat 2, .ofNat 5), .inl (.ofNat 2, .ofNat 5), .inl (v 0), .inl am_top, .inl am_top, .inl am_top, .inr (.inr (some 74)), .inl (.ofNat 0, .ofNat 160), .inl (.ofNat 158, .ofNat 160), .inl (.ofNat 0, .ofNat 160), .inl (.ofNat 1, .ofNat 3), .inl am_top, .inl (.ofNat 0, .ofNat 0), .inl am_top, .inr (.inr (some 75)), .inr (.inr (some 76)), .inr (.inr (some 77)), .inr (.inr (some 78)), .inr (.inr (some 79)), .inr (.inr (some 80)), .inr (.inr (some 81)), .inl (.negSucc 0, .ofNat 6), .inr (.inr (some 82)), .inr (.inr (some 83)), .inr (.inr (some 84)), .inr (.inr (some 85)), .inr (.inr (some 86)), .inl am_top, .inr (.inr (some 87))]))))])), fun v => (18, [(0, .inr (.inr (some 70))), (1, .inl (v 0))], [], (80, [(62, .inr (.inr (.inr (7, [.inr (.inr (some 71)), .inr (.inr (some 72)), .inl (.ofNat 2, .ofNat 5), .inl (.ofNat 2, .ofNat 5), .inl (.ofNat 0, .ofNat 5), .inr (.inr (some 73)), .inl (.ofNat 2, .ofNat 5), .inl (.ofNat 2, .ofNat 5), .inl (v 1), .inl am_top, .inl am_top, .inl am_top, .inr (.inr (some 74)), .inl (.ofNat 0, .ofNat 160), .inl (.ofNat 158, .ofNat 160), .inl (.ofNat 0, .ofNat 160), .inl (.ofNat 1, .ofNat 3), .inl am_top, .inl (.ofNat 0, .ofNat 0), .inl am_top, .inr (.inr (some 75)), .inr (.inr (some 76)), .inr (.inr (some 77)), .inr (.inr (some 78)), .inr (.inr (some 79)), .inr (.inr (some 80)), .inr (.inr (some 81)), .inl (.negSucc 0, .ofNat 6), .inr (.inr (some 82)), .inr (.inr (some 83)), .inr (.inr (some 84)), .inr (.inr (some 85)), .inr (.inr (some 86)), .inl am_top, .inr (.inr (some 87))]))))])), fun v => (62, [(0, .inr (.inr (some 70))), (1, .inl (v 0))], [], (80, [(62, .inr (.inr (.inr (7, [.inr (.inr (some 71)), .inr (.inr (some 72)), .inl (.ofNat 2, .ofNat 5), .inl (.ofNat 2, .ofNat 5), .inl (.ofNat 0, .ofNat 5), .inr (.inr (some 73)), .inl (v 1), .inl (v 2), .inl (v 3), .inl am_top, .inl am_top, .inl am_top, .inr (.inr (some 74)), .inl (.ofNat 0, .ofNat 160), .inl (.ofNat 158, .ofNat 160), .inl (.ofNat 0, .ofNat 160), .inl (.ofNat 1, .ofNat 3), .inl am_top, .inl (v 4), .inl am_top, .inr (.inr (some 75)), .inr (.inr (some 76)), .inr (.inr (some 77)), .inr (.inr (some 78)), .inr (.inr (some 79)), .inr (.inr (some 80)), .inr (.inr (some 81)), .inl (.negSucc 0, .ofNat 6), .inr (.inr (some 82)), .inr (.inr (some 83)), .inr (.inr (some 84)), .inr (.inr (some 85)), .inr (.inr (some 86)), .inl am_top, .inr (.inr (some 87))]))))])), fun v => (107, [(0, .inr (.inr (some 70))), (1, .inl (v 0))], [], (80, [(62, .inr (.inr (.inr (7, [.inr (.inr (some 71)), .inr (.inr (some 72)), .inl (.ofNat 2, .ofNat 5), .inl (.ofNat 2, .ofNat 5), .inl (.ofNat 0, .ofNat 5), .inr (.inr (some 73)), .inl (v 1), .inl (v 2), .inl (v 3), .inl am_top, .inl am_top, .inl am_top, .inr (.inr (some 74)), .inl (.ofNat 0, .ofNat 160), .inl (.ofNat 158, .ofNat 160), .inl (.ofNat 0, .ofNat 160), .inl (.ofNat 1, .ofNat 3), .inl am_top, .inl (v 4), .inl am_top, .inr (.inr (some 75)), .inr (.inr (some 76)), .inr (.inr (some 77)), .inr (.inr (some 78)), .inr (.inr (some 79)), .inr (.inr (some 80)), .inr (.inr (some 81)), .inl (.negSucc 0, .ofNat 6), .inr (.inr (some 82)), .inr (.inr (some 83)), .inr (.inr (some 84)), .inr (.inr (some 85)), .inr (.inr (some 86)), .inl am_top, .inr (.inr (some 87))]))))])), fun v => (111, [(0, .inr (.inr (some 70))), (1, .inl (v 0))], [], (80, [(62, .inr (.inr (.inr (7, [.inr (.inr (some 71)), .inr (.inr (some 72)), .inl (.ofNat 2, .ofNat 5), .inl (.ofNat 2, .ofNat 5), .inl (.ofNat 0, .ofNat 5), .inr (.inr (some 73)), .inl (v 1), .inl (v 2), .inl (v 3), .inl am_top, .inl am_top, .inl am_top, .inr (.inr (some 74)), .inl (.ofNat 0, .ofNat 160), .inl (v 4), .inl (.ofNat 0, .ofNat 160), .inl (v 5), .inl am_top, .inl (v 6), .inl am_top, .inr (.inr (some 75)), .inr (.inr (some 76)), .inr (.inr (some 77)), .inr (.inr (some 78)), .inr (.inr (some 79)), .inr (.inr (some 80)), .inr (.inr (some 81)), .inl (.negSucc 0, .ofNat 6), .inr (.inr (some 82)), .inr (.inr (some 83)), .inr (.inr (some 84)), .inr (.inr (some 85)), .inr (.inr (some 86)), .inl am_top, .inr (.inr (some 87))]))))])), fun v => (124, [(0, .inr (.inr (some 70))), (1, .inl am_top)], [], (80, [(62, .inr (.inr (.inr (7, [.inr (.inr (some 71)), .inr (.inr (some 72)), .inl (.ofNat 2, .ofNat 5), .inl (.ofNat 2, .ofNat 5), .inl (.ofNat 0, .ofNat 5), .inr (.inr (some 73)), .inl (v 0), .inl (v 1), .inl (.ofNat 0, .ofNat 5), .inl am_top, .inl am_top, .inl am_top, .inr (.inr (some 74)), .inl (.ofNat 0, .ofNat 160), .inl (v 2), .inl (.ofNat 0, .ofNat 160), .inl (v 3), .inl am_top, .inl (v 4), .inl am_top, .inr (.inr (some 75)), .inr (.inr (some 76)), .inr (.inr (some 77)), .inr (.inr (some 78)), .inr (.inr (some 79)), .inr (.inr (some 80)), .inr (.inr (some 81)), .inl (.negSucc 0, .ofNat 6), .inr (.inr (some 82)), .inr (.inr (some 83)), .inr (.inr (some 84)), .inr (.inr (some 85)), .inr (.inr (some 86)), .inl am_top, .inr (.inr (some 87))]))))])), fun v => (149, [(0, .inr (.inr (some 70))), (1, .inl am_top)], [], (80, [(62, .inr (.inr (.inr (7, [.inr (.inr (some 71)), .inr (.inr (some 72)), .inl (.ofNat 2, .ofNat 5), .inl (.ofNat 2, .ofNat 5), .inl (.ofNat 0, .ofNat 5), .inr (.inr (some 73)), .inl (v 0), .inl (v 1), .inl (.ofNat 0, .ofNat 5), .inl am_top, .inl am_top, .inl am_top, .inr (.inr (some 74)), .inl (.ofNat 0, .ofNat 160), .inl (v 2), .inl (.ofNat 0, .ofNat 160), .inl (v 3), .inl am_top, .inl (v 4), .inl am_top, .inr (.inr (some 75)), .inr (.inr (some 76)), .inr (.inr (some 77)), .inr (.inr (some 78)), .inr (.inr (some 79)), .inr (.inr (some 80)), .inr (.inr (some 81)), .inl (.negSucc 0, .ofNat 6), .inr (.inr (some 82)), .inr (.inr (some 83)), .inr (.inr (some 84)), .inr (.inr (some 85)), .inr (.inr (some 86)), .inl am_top, .inr (.inr (some 87))]))))]))]
noncomputable def vd_980_0_0 : List (List Nat) := [[1593525308956360063740018688, 5501853171713, 104024989721740574722, 74193606485443936259, 26630397369869360365571, 51884704956618132925268033540, 782320076686145928298500, 205544019731962791758856196], [5506148139009, 104024990821252202498, 74193606489738903555, 26630397651344337076227, 51884704956618406673481138180, 782320076686145945075716, 205544019732236539971960836, 5510443106305], [406347624673771522, 26630397932819313786883, 51884704956618681525517615108, 782320076686145961852932, 205544019732511392008437764, 5514738073601, 92640350572004835330, 92640350572004835331], [782320076686145978630148, 5519033040897, 92640350576299802626, 92640350576299802627, 782320076686145995407364, 5523328008193, 406347637558673410, 26630398777244243918851], [51884704956619510496920535044, 782320076686146012184580, 205544019733340363411357700, 6193342906369, 3044119403044137926658, 3044119403044137926659, 782320076686148629430276, 5497558204417], [104024988622228946946, 74193606481148968963, 26630397088394383654915, 51884704956617809505003175940, 782320076686145911521284, 205544019731639371493998596, 49878041507761672262999605248, 177025667104769], [2981717065220430626818, 85434591155360694275, 763319568697534013702147, 51885441645789409814046244868, 782320120596242295160836, 206280708903239680537067524, 177029962072065, 2981717066319942254594], [85434591159655661571, 763319568979008990412803, 51885441645789683562259349508, 782320120596242311938052, 206280708903513428750172164, 177034257039361, 11647332294590529538, 763319569260483967123459]]
noncomputable def vd_980_0_1 : List (List Nat) := [[51885441645789958414295826436, 782320120596242328715268, 206280708903788280786649092, 177038552006657, 11647332298885496834, 763319569541958943834115, 51885441645790233266332303364, 782320120596242345492484], [206280708904063132823126020, 177042846973953, 11647332303180464130, 763319569823433920544771, 51885441645790508118368780292, 782320120596242362269700, 206280708904337984859602948, 177047141941249], [11647332307475431426, 763319570104908897255427, 51885441645790782970405257220, 782320120596242379046916, 206280708904612836896079876, 177717156839425, 3055360387714054684674, 3055360387714054684675], [782320120596244996292612, 177021372137473, 2981717064120918999042, 85434591151149613059, 763319568421578069966851, 51885441645789081978487898116, 46904766609031173, 144298414132166662], [3092181535001457852421, 191298138173079558, 47182945785479174, 782320120596242278383620, 206280708902906325861859332, 3092613880565685420037, 191304735242846214, 47189542855245830], [48030666515873797, 144302812178677766, 3055937974374854885381, 11937257712401776646]]
noncomputable def vd_980_0 : List (List (List Nat)) := [vd_980_0_0, vd_980_0_1]
noncomputable def vd_980 : List (List (List (List Nat))) := [vd_980_0]
noncomputable def vt_980 : List (List am_I) := [[(.ofNat 0, .ofNat 4), (.negSucc 3, .negSucc 3), (.ofNat 2, .ofNat 5), (.ofNat 0, .ofNat 5), (.ofNat 1, .ofNat 6), (.ofNat 159, .ofNat 160), (.ofNat 1, .ofNat 3), (.ofNat 0, .ofNat 160)], [(.ofNat 0, .ofNat 3), (.ofNat 158, .ofNat 160)]]
noncomputable def vc_980 : vm_C := (fun _ => vp_980, fun pc => (match Nat.beq pc 0 with
  | true => [(fun _ _ => some (.inr (62, 8)), fun _ _ => some [.ofNat 5])]
  | false => (match Nat.beq pc 18 with
  | true => [(fun _ _ => some (.inl 1), fun _ _ => some [.ofNat 0, .ofNat 1, .ofNat 2, .ofNat 3, .ofNat 4, .ofNat 5, .ofNat 6, .ofNat 7])]
  | false => [])), [18, 62, 107, 111, 124, 149], 108, vm_inst 8 161 vt_980 vf_980 vd_980)
theorem vx_980_0 : vm_chk bt_155 [] vk_980 29 vc_980 0 12 = true := by decide +kernel
theorem vx_980_1 : vm_chk bt_155 [] vk_980 29 vc_980 12 17 = true := by decide +kernel
theorem vx_980_2 : vm_chk bt_155 [] vk_980 29 vc_980 29 15 = true := by decide +kernel
theorem vx_980_3 : vm_chk bt_155 [] vk_980 29 vc_980 44 12 = true := by decide +kernel
theorem vx_980_4 : vm_chk bt_155 [] vk_980 29 vc_980 56 18 = true := by decide +kernel
theorem vx_980_5 : vm_chk bt_155 [] vk_980 29 vc_980 74 17 = true := by decide +kernel
theorem vx_980_6 : vm_chk bt_155 [] vk_980 29 vc_980 91 17 = true := by decide +kernel
theorem vy_980 : vm_ents 155 29 vc_980 ve_980 = true := by decide +kernel
theorem vw_980 : ∀ q ∈ vk_980, vm_wt 6 q := vm_wts (vm_kc (vm_up (vj_898 160 (by decide)) rfl) (vm_kc (vm_up (vj_898 159 (by decide)) rfl) (vm_kc (vm_up (vj_898 158 (by decide)) rfl) (vm_kc (vm_up v_899 rfl) (vm_kc (vm_up v_830 rfl) (vm_kc (vm_up v_832 rfl) (vm_kc (vm_up v_842 rfl) (vm_kc (vm_up v_844 rfl) (vm_kc (vm_up v_848 rfl) (vm_kc (vm_up v_850 rfl) (vm_kc (vm_up v_851 rfl) (vm_kc (vm_up v_917 rfl) (vm_kc (vm_up v_957 rfl) (vm_kc (vm_up v_958 rfl) (vm_kc (vm_up (v_F_rlo_2 159 (by decide) (by decide)) rfl) (vm_kc (vm_up (v_F_rlo_3 159 (by decide) (by decide)) rfl) (vm_kc (vm_up v_961 rfl) (vm_kc (vm_up v_962 rfl) (vm_kc (vm_up v_963 rfl) (vm_kc (vm_up (v_F_rlo_0 158 (by decide) (by decide)) rfl) (vm_kc (vm_up v_974 rfl) (vm_kc (vm_up (v_F_rlo_2 158 (by decide) (by decide)) rfl) (vm_kc (vm_up (v_F_rlo_3 158 (by decide) (by decide)) rfl) (vm_kc (vm_up v_977 rfl) (vm_kc (vm_up v_978 rfl) (vm_kc (vm_up v_979 rfl) vm_kn)))))))))))))))))))))))))) (by decide +kernel)
theorem v_980 : vm_at 7 q_980 := vm_ok (inl := []) (es := ve_980) bq_155 (by decide) vw_980 vy_980 (fun i => vm_hc vx_980_6 rfl (vm_hc vx_980_5 rfl (vm_hc vx_980_4 rfl (vm_hc vx_980_3 rfl (vm_hc vx_980_2 rfl (vm_hc vx_980_1 rfl (vm_hc vx_980_0 rfl (fun h => absurd h (Nat.not_lt_zero _))))))))) _ List.mem_cons_self
noncomputable def vp_996 : List vm_R := [(none, va_h168), (none, va_h349), (none, va_h350)]
noncomputable def ve_996 : List vm_E := [([.inr (.inr (some 70))], va_h359, 0, [0, 46])]
noncomputable def q_996 : vm_Q := (155, [.inr (.inr (some 70))], va_h359, vp_996)
noncomputable def vk_996 : List vm_U := [((qj_898 159), false, [(7, 62, 6), (7, 62, 7)]), ((qj_898 158), false, [(7, 62, 6), (7, 62, 7)]), ((qj_898 157), false, [(7, 62, 6), (7, 62, 7), (7, 62, 8)]), (q_899, false, [(7, 62, 8)]), (q_830, false, [(7, 62, 8), (7, 62, 14), (7, 62, 16)]), (q_832, false, [(7, 62, 8), (7, 62, 14), (7, 62, 16)]), (q_842, false, [(7, 62, 8), (7, 62, 14), (7, 62, 16)]), (q_844, false, [(7, 62, 8), (7, 62, 14), (7, 62, 16)]), (q_848, false, [(7, 62, 8), (7, 62, 14), (7, 62, 16)]), (q_850, false, [(7, 62, 8), (7, 62, 14), (7, 62, 16)]), (q_851, false, [(7, 62, 6), (7, 62, 7), (7, 62, 8), (7, 62, 14), (7, 62, 16)]), (q_917, true, []), ((q_F_rlo_0 158), false, []), (q_974, false, []), ((q_F_rlo_2 158), false, []), ((q_F_rlo_3 158), false, []), (q_977, false, []), (q_978, false, []), (q_979, false, []), ((q_F_rlo_0 157), false, []), (q_990, false, []), ((q_F_rlo_2 157), false, []), ((q_F_rlo_3 157), false, []), ((q_F_rlo_6 157), false, []), ((q_F_rlo_4 157), false, []), ((q_F_rlo_5 157), false, [])]
noncomputable def vf_996 : List ((Nat → am_I) → vm_A) := [fun v => (0, [(0, .inr (.inr (some 70)))], [], (80, [(62, .inr (.inr (.inr (7, [.inr (.inr (some 71)), .inr (.inr (some 72)), .inl (.ofNat 2, .ofNat 5), .inl (.ofNat 2, .ofNat 5), .inl (.ofNat 0, .ofNat 5), .inr (.inr (some 73)), .inl (.ofNat 2, .ofNat 5), .inl (.ofNat 2, .ofNat 5), .inl (v 0), .inl am_top, .inl am_top, .inl am_top, .inr (.inr (some 74)), .inl (.ofNat 0, .ofNat 160), .inl (.ofNat 157, .ofNat 160), .inl (.ofNat 0, .ofNat 160), .inl (.ofNat 1, .ofNat 3), .inl am_top, .inl (.ofNat 0, .ofNat 0), .inl am_top, .inr (.inr (some 75)), .inr (.inr (some 76)), .inr (.inr (some 77)), .inr (.inr (some 78)), .inr (.inr (some 79)), .inr (.inr (some 80)), .inr (.inr (some 81)), .inl (.negSucc 0, .ofNat 6), .inr (.inr (some 82)), .inr (.inr (some 83)), .inr (.inr (some 84)), .inr (.inr (some 85)), .inr (.inr (some 86)), .inl am_top, .inr (.inr (some 87))]))))])), fun v => (18, [(0, .inr (.inr (some 70))), (1, .inl (v 0))], [], (80, [(62, .inr (.inr (.inr (7, [.inr (.inr (some 71)), .inr (.inr (some 72)), .inl (.ofNat 2, .ofNat 5), .inl (.ofNat 2, .ofNat 5), .inl (.ofNat 0, .ofNat 5), .inr (.inr (some 73)), .inl (.ofNat 2, .ofNat 5), .inl (.ofNat 2, .ofNat 5), .inl (v 1), .inl am_top, .inl am_top, .inl am_top, .inr (.inr (some 74)), .inl (.ofNat 0, .ofNat 160), .inl (.ofNat 157, .ofNat 160), .inl (.ofNat 0, .ofNat 160), .inl (.ofNat 1, .ofNat 3), .inl am_top, .inl (.ofNat 0, .ofNat 0), .inl am_top, .inr (.inr (some 75)), .inr (.inr (some 76)), .inr (.inr (some 77)), .inr (.inr (some 78)), .inr (.inr (some 79)), .inr (.inr (some 80)), .inr (.inr (some 81)), .inl (.negSucc 0, .ofNat 6), .inr (.inr (some 82)), .inr (.inr (some 83)), .inr (.inr (some 84)), .inr (.inr (some 85)), .inr (.inr (some 86)), .inl am_top, .inr (.inr (some 87))]))))])), fun v => (62, [(0, .inr (.inr (some 70))), (1, .inl (v 0))], [], (80, [(62, .inr (.inr (.inr (7, [.inr (.inr (some 71)), .inr (.inr (some 72)), .inl (.ofNat 2, .ofNat 5), .inl (.ofNat 2, .ofNat 5), .inl (.ofNat 0, .ofNat 5), .inr (.inr (some 73)), .inl (v 1), .inl (v 2), .inl (v 3), .inl am_top, .inl am_top, .inl am_top, .inr (.inr (some 74)), .inl (.ofNat 0, .ofNat 160), .inl (.ofNat 157, .ofNat 160), .inl (.ofNat 0, .ofNat 160), .inl (.ofNat 1, .ofNat 3), .inl am_top, .inl (v 4), .inl am_top, .inr (.inr (some 75)), .inr (.inr (some 76)), .inr (.inr (some 77)), .inr (.inr (some 78)), .inr (.inr (some 79)), .inr (.inr (some 80)), .inr (.inr (some 81)), .inl (.negSucc 0, .ofNat 6), .inr (.inr (some 82)), .inr (.inr (some 83)), .inr (.inr (some 84)), .inr (.inr (some 85)), .inr (.inr (some 86)), .inl am_top, .inr (.inr (some 87))]))))])), fun v => (107, [(0, .inr (.inr (some 70))), (1, .inl (v 0))], [], (80, [(62, .inr (.inr (.inr (7, [.inr (.inr (some 71)), .inr (.inr (some 72)), .inl (.ofNat 2, .ofNat 5), .inl (.ofNat 2, .ofNat 5), .inl (.ofNat 0, .ofNat 5), .inr (.inr (some 73)), .inl (v 1), .inl (v 2), .inl (v 3), .inl am_top, .inl am_top, .inl am_top, .inr (.inr (some 74)), .inl (.ofNat 0, .ofNat 160), .inl (.ofNat 157, .ofNat 160), .inl (.ofNat 0, .ofNat 160), .inl (.ofNat 1, .ofNat 3), .inl am_top, .inl (v 4), .inl am_top, .inr (.inr (some 75)), .inr (.inr (some 76)), .inr (.inr (some 77)), .inr (.inr (some 78)), .inr (.inr (some 79)), .inr (.inr (some 80)), .inr (.inr (some 81)), .inl (.negSucc 0, .ofNat 6), .inr (.inr (some 82)), .inr (.inr (some 83)), .inr (.inr (some 84)), .inr (.inr (some 85)), .inr (.inr (some 86)), .inl am_top, .inr (.inr (some 87))]))))])), fun v => (111, [(0, .inr (.inr (some 70))), (1, .inl (v 0))], [], (80, [(62, .inr (.inr (.inr (7, [.inr (.inr (some 71)), .inr (.inr (some 72)), .inl (.ofNat 2, .ofNat 5), .inl (.ofNat 2, .ofNat 5), .inl (.ofNat 0, .ofNat 5), .inr (.inr (some 73)), .inl (v 1), .inl (v 2), .inl (v 3), .inl am_top, .inl am_top, .inl am_top, .inr (.inr (some 74)), .inl (.ofNat 0, .ofNat 160), .inl (v 4), .inl (.ofNat 0, .ofNat 160), .inl (v 5), .inl am_top, .inl (v 6), .inl am_top, .inr (.inr (some 75)), .inr (.inr (some 76)), .inr (.inr (some 77)), .inr (.inr (some 78)), .inr (.inr (some 79)), .inr (.inr (some 80)), .inr (.inr (some 81)), .inl (.negSucc 0, .ofNat 6), .inr (.inr (some 82)), .inr (.inr (some 83)), .inr (.inr (some 84)), .inr (.inr (some 85)), .inr (.inr (some 86)), .inl am_top, .inr (.inr (some 87))]))))])), fun v => (124, [(0, .inr (.inr (some 70))), (1, .inl am_top)], [], (80, [(62, .inr (.inr (.inr (7, [.inr (.inr (some 71)), .inr (.inr (some 72)), .inl (.ofNat 2, .ofNat 5), .inl (.ofNat 2, .ofNat 5), .inl (.ofNat 0, .ofNat 5), .inr (.inr (some 73)), .inl (v 0), .inl (v 1), .inl (.ofNat 0, .ofNat 5), .inl am_top, .inl am_top, .inl am_top, .inr (.inr (some 74)), .inl (.ofNat 0, .ofNat 160), .inl (v 2), .inl (.ofNat 0, .ofNat 160), .inl (v 3), .inl am_top, .inl (v 4), .inl am_top, .inr (.inr (some 75)), .inr (.inr (some 76)), .inr (.inr (some 77)), .inr (.inr (some 78)), .inr (.inr (some 79)), .inr (.inr (some 80)), .inr (.inr (some 81)), .inl (.negSucc 0, .ofNat 6), .inr (.inr (some 82)), .inr (.inr (some 83)), .inr (.inr (some 84)), .inr (.inr (some 85)), .inr (.inr (some 86)), .inl am_top, .inr (.inr (some 87))]))))])), fun v => (149, [(0, .inr (.inr (some 70))), (1, .inl am_top)], [], (80, [(62, .inr (.inr (.inr (7, [.inr (.inr (some 71)), .inr (.inr (some 72)), .inl (.ofNat 2, .ofNat 5), .inl (.ofNat 2, .ofNat 5), .inl (.ofNat 0, .ofNat 5), .inr (.inr (some 73)), .inl (v 0), .inl (v 1), .inl (.ofNat 0, .ofNat 5), .inl am_top, .inl am_top, .inl am_top, .inr (.inr (some 74)), .inl (.ofNat 0, .ofNat 160), .inl (v 2), .inl (.ofNat 0, .ofNat 160), .inl (v 3), .inl am_top, .inl (v 4), .inl am_top, .inr (.inr (some 75)), .inr (.inr (some 76)), .inr (.inr (some 77)), .inr (.inr (some 78)), .inr (.inr (some 79)), .inr (.inr (some 80)), .inr (.inr (some 81)), .inl (.negSucc 0, .ofNat 6), .inr (.inr (some 82)), .inr (.inr (some 83)), .inr (.inr (some 84)), .inr (.inr (some 85)), .inr (.inr (some 86)), .inl am_top, .inr (.inr (some 87))]))))]))]
noncomputable def vd_996_0_0 : List (List Nat) := [[1593525308956360063740018688, 5501853171713, 99684645580862259202, 74176652016143630339, 25519269269804511592451, 33243067707032450990744993796, 497866959547673970999300, 133007359426984976427712516], [5506148139009, 99684646680373886978, 74176652020438597635, 25519269551279488303107, 33243067707032724738958098436, 497866959547673987776516, 133007359427258724640817156, 5510443106305], [389393155373465602, 25519269832754465013763, 33243067707032999590994575364, 497866959547674004553732, 133007359427533576677294084, 5514738073601, 92623396102704529410, 92623396102704529411], [497866959547674021330948, 5519033040897, 92623396106999496706, 92623396106999496707, 497866959547674038108164, 5523328008193, 389393168258367490, 25519270677179395145731], [33243067707033828562397495300, 497866959547674054885380, 133007359428362548080214020, 5935644868609, 1937297803894566486018, 1937297803894566486019, 497866959547675665498116, 5497558204417], [99684644481350631426, 74176652011848663043, 25519268988329534881795, 33243067707032127570480136196, 497866959547673954222084, 133007359426661556162854916, 31308940918480968139512741888, 111054969438209], [1870572076656979214338, 81094181043784712195, 478866451625290452107267, 33243521054214755700810383364, 497866986569271735222276, 133460706609289686493102084, 111059264405505, 1870572077756490842114], [81094181048079679491, 478866451906765428817923, 33243521054215029449023488004, 497866986569271751999492, 133460706609563434706206724, 111063559372801, 7306922183014547458, 478866452188240405528579]]
noncomputable def vd_996_0_1 : List (List Nat) := [[33243521054215304301059964932, 497866986569271768776708, 133460706609838286742683652, 111067854340097, 7306922187309514754, 478866452469715382239235, 33243521054215579153096441860, 497866986569271785553924], [133460706610113138779160580, 111072149307393, 7306922191604482050, 478866452751190358949891, 33243521054215854005132918788, 497866986569271802331140, 133460706610387990815637508, 111076444274689], [7306922195899449346, 478866453032665335660547, 33243521054216128857169395716, 497866986569271819108356, 133460706610662842852114436, 111488761135105, 1944215332922207567874, 1944215332922207567875], [497866986569273429721092, 111050674470913, 1870572075557467586562, 81094181039573630979, 478866451349334508371971, 33243521054214427865252036612, 1981829114001725980677, 174355504796008454], [30240312408408070, 29950039610687493, 144232184729829382, 497866986569271718445060, 133460706608956331817893892, 1981468826031536340997, 174350007237869574, 30234814850269190], [31075939517530117, 144236582776340486, 1944792919583007768581, 7596847342121123846]]
noncomputable def vd_996_0 : List (List (List Nat)) := [vd_996_0_0, vd_996_0_1]
noncomputable def vd_996 : List (List (List (List Nat))) := [vd_996_0]
noncomputable def vt_996 : List (List am_I) := [[(.ofNat 0, .ofNat 4), (.negSucc 3, .negSucc 3), (.ofNat 2, .ofNat 5), (.ofNat 0, .ofNat 5), (.ofNat 1, .ofNat 6), (.ofNat 158, .ofNat 160), (.ofNat 1, .ofNat 3), (.ofNat 0, .ofNat 160)], [(.ofNat 0, .ofNat 3), (.ofNat 157, .ofNat 160), (.ofNat 159, .ofNat 160)]]
noncomputable def vc_996 : vm_C := (fun _ => vp_996, fun pc => (match Nat.beq pc 0 with
  | true => [(fun _ _ => some (.inr (62, 8)), fun _ _ => some [.ofNat 5])]
  | false => (match Nat.beq pc 18 with
  | true => [(fun _ _ => some (.inl 1), fun _ _ => some [.ofNat 0, .ofNat 1, .ofNat 2, .ofNat 3, .ofNat 4, .ofNat 5, .ofNat 6, .ofNat 7])]
  | false => [])), [18, 62, 107, 111, 124, 149], 108, vm_inst 8 101 vt_996 vf_996 vd_996)
theorem vx_996_0 : vm_chk bt_155 [] vk_996 29 vc_996 0 12 = true := by decide +kernel
theorem vx_996_1 : vm_chk bt_155 [] vk_996 29 vc_996 12 17 = true := by decide +kernel
theorem vx_996_2 : vm_chk bt_155 [] vk_996 29 vc_996 29 15 = true := by decide +kernel
theorem vx_996_3 : vm_chk bt_155 [] vk_996 29 vc_996 44 12 = true := by decide +kernel
theorem vx_996_4 : vm_chk bt_155 [] vk_996 29 vc_996 56 18 = true := by decide +kernel
theorem vx_996_5 : vm_chk bt_155 [] vk_996 29 vc_996 74 17 = true := by decide +kernel
theorem vx_996_6 : vm_chk bt_155 [] vk_996 29 vc_996 91 17 = true := by decide +kernel
theorem vy_996 : vm_ents 155 29 vc_996 ve_996 = true := by decide +kernel
theorem vw_996 : ∀ q ∈ vk_996, vm_wt 6 q := vm_wts (vm_kc (vm_up (vj_898 159 (by decide)) rfl) (vm_kc (vm_up (vj_898 158 (by decide)) rfl) (vm_kc (vm_up (vj_898 157 (by decide)) rfl) (vm_kc (vm_up v_899 rfl) (vm_kc (vm_up v_830 rfl) (vm_kc (vm_up v_832 rfl) (vm_kc (vm_up v_842 rfl) (vm_kc (vm_up v_844 rfl) (vm_kc (vm_up v_848 rfl) (vm_kc (vm_up v_850 rfl) (vm_kc (vm_up v_851 rfl) (vm_kc (vm_up v_917 rfl) (vm_kc (vm_up (v_F_rlo_0 158 (by decide) (by decide)) rfl) (vm_kc (vm_up v_974 rfl) (vm_kc (vm_up (v_F_rlo_2 158 (by decide) (by decide)) rfl) (vm_kc (vm_up (v_F_rlo_3 158 (by decide) (by decide)) rfl) (vm_kc (vm_up v_977 rfl) (vm_kc (vm_up v_978 rfl) (vm_kc (vm_up v_979 rfl) (vm_kc (vm_up (v_F_rlo_0 157 (by decide) (by decide)) rfl) (vm_kc (vm_up v_990 rfl) (vm_kc (vm_up (v_F_rlo_2 157 (by decide) (by decide)) rfl) (vm_kc (vm_up (v_F_rlo_3 157 (by decide) (by decide)) rfl) (vm_kc (vm_up (v_F_rlo_6 157 (by decide) (by decide)) rfl) (vm_kc (vm_up (v_F_rlo_4 157 (by decide) (by decide)) rfl) (vm_kc (vm_up (v_F_rlo_5 157 (by decide) (by decide)) rfl) vm_kn)))))))))))))))))))))))))) (by decide +kernel)
theorem v_996 : vm_at 7 q_996 := vm_ok (inl := []) (es := ve_996) bq_155 (by decide) vw_996 vy_996 (fun i => vm_hc vx_996_6 rfl (vm_hc vx_996_5 rfl (vm_hc vx_996_4 rfl (vm_hc vx_996_3 rfl (vm_hc vx_996_2 rfl (vm_hc vx_996_1 rfl (vm_hc vx_996_0 rfl (fun h => absurd h (Nat.not_lt_zero _))))))))) _ List.mem_cons_self
noncomputable def va_c248 : am_C := .inr (.inr (.inr (7, [.inr (.inr (some 71)), .inr (.inr (some 72)), .inl (.ofNat 2, .ofNat 5), .inl (.ofNat 2, .ofNat 5), .inl (.ofNat 0, .ofNat 5), .inr (.inr (some 73)), .inl (.ofNat 2, .ofNat 5), .inl (.ofNat 2, .ofNat 5), .inl (.ofNat 0, .ofNat 5), .inl am_top, .inl am_top, .inl am_top, .inr (.inr (some 74)), .inl (.ofNat 0, .ofNat 160), .inl (.ofNat 156, .ofNat 160), .inl (.ofNat 0, .ofNat 160), .inl (.ofNat 1, .ofNat 3), .inl am_top, .inl (.ofNat 0, .ofNat 0), .inl am_top, .inr (.inr (some 75)), .inr (.inr (some 76)), .inr (.inr (some 77)), .inr (.inr (some 78)), .inr (.inr (some 79)), .inr (.inr (some 80)), .inr (.inr (some 81)), .inl (.negSucc 0, .ofNat 6), .inr (.inr (some 82)), .inr (.inr (some 83)), .inr (.inr (some 84)), .inr (.inr (some 85)), .inr (.inr (some 86)), .inl am_top, .inr (.inr (some 87))])))
noncomputable def va_h361 : am_H := (80, [(62, va_c248)])
noncomputable def vp_1012 : List vm_R := [(none, va_h168), (none, va_h355), (none, va_h356)]
noncomputable def ve_1012 : List vm_E := [([.inr (.inr (some 70))], va_h361, 0, [0, 46])]
noncomputable def q_1012 : vm_Q := (155, [.inr (.inr (some 70))], va_h361, vp_1012)
noncomputable def vk_1012 : List vm_U := [((qj_898 158), false, [(7, 62, 6), (7, 62, 7)]), ((qj_898 157), false, [(7, 62, 6), (7, 62, 7)]), ((qj_898 156), false, [(7, 62, 6), (7, 62, 7), (7, 62, 8)]), (q_899, false, [(7, 62, 8)]), (q_830, false, [(7, 62, 8), (7, 62, 14), (7, 62, 16)]), (q_832, false, [(7, 62, 8), (7, 62, 14), (7, 62, 16)]), (q_842, false, [(7, 62, 8), (7, 62, 14), (7, 62, 16)]), (q_844, false, [(7, 62, 8), (7, 62, 14), (7, 62, 16)]), (q_848, false, [(7, 62, 8), (7, 62, 14), (7, 62, 16)]), (q_850, false, [(7, 62, 8), (7, 62, 14), (7, 62, 16)]), (q_851, false, [(7, 62, 6), (7, 62, 7), (7, 62, 8), (7, 62, 14), (7, 62, 16)]), (q_917, true, []), ((q_F_rlo_0 157), false, []), (q_990, false, []), ((q_F_rlo_2 157), false, []), ((q_F_rlo_3 157), false, []), ((q_F_rlo_6 157), false, []), ((q_F_rlo_4 157), false, []), ((q_F_rlo_5 157), false, []), ((q_F_rlo_0 156), false, []), (q_1006, false, []), ((q_F_rlo_2 156), false, []), ((q_F_rlo_3 156), false, []), ((q_F_rlo_6 156), false, []), ((q_F_rlo_4 156), false, []), ((q_F_rlo_5 156), false, [])]
noncomputable def vf_1012 : List ((Nat → am_I) → vm_A) := [fun v => (0, [(0, .inr (.inr (some 70)))], [], (80, [(62, .inr (.inr (.inr (7, [.inr (.inr (some 71)), .inr (.inr (some 72)), .inl (.ofNat 2, .ofNat 5), .inl (.ofNat 2, .ofNat 5), .inl (.ofNat 0, .ofNat 5), .inr (.inr (some 73)), .inl (.ofNat 2, .ofNat 5), .inl (.ofNat 2, .ofNat 5), .inl (v 0), .inl am_top, .inl am_top, .inl am_top, .inr (.inr (some 74)), .inl (.ofNat 0, .ofNat 160), .inl (.ofNat 156, .ofNat 160), .inl (.ofNat 0, .ofNat 160), .inl (.ofNat 1, .ofNat 3), .inl am_top, .inl (.ofNat 0, .ofNat 0), .inl am_top, .inr (.inr (some 75)), .inr (.inr (some 76)), .inr (.inr (some 77)), .inr (.inr (some 78)), .inr (.inr (some 79)), .inr (.inr (some 80)), .inr (.inr (some 81)), .inl (.negSucc 0, .ofNat 6), .inr (.inr (some 82)), .inr (.inr (some 83)), .inr (.inr (some 84)), .inr (.inr (some 85)), .inr (.inr (some 86)), .inl am_top, .inr (.inr (some 87))]))))])), fun v => (18, [(0, .inr (.inr (some 70))), (1, .inl (v 0))], [], (80, [(62, .inr (.inr (.inr (7, [.inr (.inr (some 71)), .inr (.inr (some 72)), .inl (.ofNat 2, .ofNat 5), .inl (.ofNat 2, .ofNat 5), .inl (.ofNat 0, .ofNat 5), .inr (.inr (some 73)), .inl (.ofNat 2, .ofNat 5), .inl (.ofNat 2, .ofNat 5), .inl (v 1), .inl am_top, .inl am_top, .inl am_top, .inr (.inr (some 74)), .inl (.ofNat 0, .ofNat 160), .inl (.ofNat 156, .ofNat 160), .inl (.ofNat 0, .ofNat 160), .inl (.ofNat 1, .ofNat 3), .inl am_top, .inl (.ofNat 0, .ofNat 0), .inl am_top, .inr (.inr (some 75)), .inr (.inr (some 76)), .inr (.inr (some 77)), .inr (.inr (some 78)), .inr (.inr (some 79)), .inr (.inr (some 80)), .inr (.inr (some 81)), .inl (.negSucc 0, .ofNat 6), .inr (.inr (some 82)), .inr (.inr (some 83)), .inr (.inr (some 84)), .inr (.inr (some 85)), .inr (.inr (some 86)), .inl am_top, .inr (.inr (some 87))]))))])), fun v => (62, [(0, .inr (.inr (some 70))), (1, .inl (v 0))], [], (80, [(62, .inr (.inr (.inr (7, [.inr (.inr (some 71)), .inr (.inr (some 72)), .inl (.ofNat 2, .ofNat 5), .inl (.ofNat 2, .ofNat 5), .inl (.ofNat 0, .ofNat 5), .inr (.inr (some 73)), .inl (v 1), .inl (v 2), .inl (v 3), .inl am_top, .inl am_top, .inl am_top, .inr (.inr (some 74)), .inl (.ofNat 0, .ofNat 160), .inl (.ofNat 156, .ofNat 160), .inl (.ofNat 0, .ofNat 160), .inl (.ofNat 1, .ofNat 3), .inl am_top, .inl (v 4), .inl am_top, .inr (.inr (some 75)), .inr (.inr (some 76)), .inr (.inr (some 77)), .inr (.inr (some 78)), .inr (.inr (some 79)), .inr (.inr (some 80)), .inr (.inr (some 81)), .inl (.negSucc 0, .ofNat 6), .inr (.inr (some 82)), .inr (.inr (some 83)), .inr (.inr (some 84)), .inr (.inr (some 85)), .inr (.inr (some 86)), .inl am_top, .inr (.inr (some 87))]))))])), fun v => (107, [(0, .inr (.inr (some 70))), (1, .inl (v 0))], [], (80, [(62, .inr (.inr (.inr (7, [.inr (.inr (some 71)), .inr (.inr (some 72)), .inl (.ofNat 2, .ofNat 5), .inl (.ofNat 2, .ofNat 5), .inl (.ofNat 0, .ofNat 5), .inr (.inr (some 73)), .inl (v 1), .inl (v 2), .inl (v 3), .inl am_top, .inl am_top, .inl am_top, .inr (.inr (some 74)), .inl (.ofNat 0, .ofNat 160), .inl (.ofNat 156, .ofNat 160), .inl (.ofNat 0, .ofNat 160), .inl (.ofNat 1, .ofNat 3), .inl am_top, .inl (v 4), .inl am_top, .inr (.inr (some 75)), .inr (.inr (some 76)), .inr (.inr (some 77)), .inr (.inr (some 78)), .inr (.inr (some 79)), .inr (.inr (some 80)), .inr (.inr (some 81)), .inl (.negSucc 0, .ofNat 6), .inr (.inr (some 82)), .inr (.inr (some 83)), .inr (.inr (some 84)), .inr (.inr (some 85)), .inr (.inr (some 86)), .inl am_top, .inr (.inr (some 87))]))))])), fun v => (111, [(0, .inr (.inr (some 70))), (1, .inl (v 0))], [], (80, [(62, .inr (.inr (.inr (7, [.inr (.inr (some 71)), .inr (.inr (some 72)), .inl (.ofNat 2, .ofNat 5), .inl (.ofNat 2, .ofNat 5), .inl (.ofNat 0, .ofNat 5), .inr (.inr (some 73)), .inl (v 1), .inl (v 2), .inl (v 3), .inl am_top, .inl am_top, .inl am_top, .inr (.inr (some 74)), .inl (.ofNat 0, .ofNat 160), .inl (v 4), .inl (.ofNat 0, .ofNat 160), .inl (v 5), .inl am_top, .inl (v 6), .inl am_top, .inr (.inr (some 75)), .inr (.inr (some 76)), .inr (.inr (some 77)), .inr (.inr (some 78)), .inr (.inr (some 79)), .inr (.inr (some 80)), .inr (.inr (some 81)), .inl (.negSucc 0, .ofNat 6), .inr (.inr (some 82)), .inr (.inr (some 83)), .inr (.inr (some 84)), .inr (.inr (some 85)), .inr (.inr (some 86)), .inl am_top, .inr (.inr (some 87))]))))])), fun v => (124, [(0, .inr (.inr (some 70))), (1, .inl am_top)], [], (80, [(62, .inr (.inr (.inr (7, [.inr (.inr (some 71)), .inr (.inr (some 72)), .inl (.ofNat 2, .ofNat 5), .inl (.ofNat 2, .ofNat 5), .inl (.ofNat 0, .ofNat 5), .inr (.inr (some 73)), .inl (v 0), .inl (v 1), .inl (.ofNat 0, .ofNat 5), .inl am_top, .inl am_top, .inl am_top, .inr (.inr (some 74)), .inl (.ofNat 0, .ofNat 160), .inl (v 2), .inl (.ofNat 0, .ofNat 160), .inl (v 3), .inl am_top, .inl (v 4), .inl am_top, .inr (.inr (some 75)), .inr (.inr (some 76)), .inr (.inr (some 77)), .inr (.inr (some 78)), .inr (.inr (some 79)), .inr (.inr (some 80)), .inr (.inr (some 81)), .inl (.negSucc 0, .ofNat 6), .inr (.inr (some 82)), .inr (.inr (some 83)), .inr (.inr (some 84)), .inr (.inr (some 85)), .inr (.inr (some 86)), .inl am_top, .inr (.inr (some 87))]))))])), fun v => (149, [(0, .inr (.inr (some 70))), (1, .inl am_top)], [], (80, [(62, .inr (.inr (.inr (7, [.inr (.inr (some 71)), .inr (.inr (some 72)), .inl (.ofNat 2, .ofNat 5), .inl (.ofNat 2, .ofNat 5), .inl (.ofNat 0, .ofNat 5), .inr (.inr (some 73)), .inl (v 0), .inl (v 1), .inl (.ofNat 0, .ofNat 5), .inl am_top, .inl am_top, .inl am_top, .inr (.inr (some 74)), .inl (.ofNat 0, .ofNat 160), .inl (v 2), .inl (.ofNat 0, .ofNat 160), .inl (v 3), .inl am_top, .inl (v 4), .inl am_top, .inr (.inr (some 75)), .inr (.inr (some 76)), .inr (.inr (some 77)), .inr (.inr (some 78)), .inr (.inr (some 79)), .inr (.inr (some 80)), .inr (.inr (some 81)), .inl (.negSucc 0, .ofNat 6), .inr (.inr (some 82)), .inr (.inr (some 83)), .inr (.inr (some 84)), .inr (.inr (some 85)), .inr (.inr (some 86)), .inl am_top, .inr (.inr (some 87))]))))]))]
noncomputable def vd_1012_0_0 : List (List Nat) := [[1593525308956360063740018688, 5501853171713, 99684645580862259202, 74176652016143630339, 25519269269804511592451, 33243067707032450990744993796, 497866959547673970999300, 133007359426984976427712516], [5506148139009, 99684646680373886978, 74176652020438597635, 25519269551279488303107, 33243067707032724738958098436, 497866959547673987776516, 133007359427258724640817156, 5510443106305], [389393155373465602, 25519269832754465013763, 33243067707032999590994575364, 497866959547674004553732, 133007359427533576677294084, 5514738073601, 92623396102704529410, 92623396102704529411], [497866959547674021330948, 5519033040897, 92623396106999496706, 92623396106999496707, 497866959547674038108164, 5523328008193, 389393168258367490, 25519270677179395145731], [33243067707033828562397495300, 497866959547674054885380, 133007359428362548080214020, 5935644868609, 1937297803894566486018, 1937297803894566486019, 497866959547675665498116, 5497558204417], [99684644481350631426, 74176652011848663043, 25519268988329534881795, 33243067707032127570480136196, 497866959547673954222084, 133007359426661556162854916, 31308940918480968139512741888, 111054969438209], [1870572076656979214338, 81094181043784712195, 478866451625290452107267, 33243521054214755700810383364, 497866986569271735222276, 133460706609289686493102084, 111059264405505, 1870572077756490842114], [81094181048079679491, 478866451906765428817923, 33243521054215029449023488004, 497866986569271751999492, 133460706609563434706206724, 111063559372801, 7306922183014547458, 478866452188240405528579]]
noncomputable def vd_1012_0_1 : List (List Nat) := [[33243521054215304301059964932, 497866986569271768776708, 133460706609838286742683652, 111067854340097, 7306922187309514754, 478866452469715382239235, 33243521054215579153096441860, 497866986569271785553924], [133460706610113138779160580, 111072149307393, 7306922191604482050, 478866452751190358949891, 33243521054215854005132918788, 497866986569271802331140, 133460706610387990815637508, 111076444274689], [7306922195899449346, 478866453032665335660547, 33243521054216128857169395716, 497866986569271819108356, 133460706610662842852114436, 111488761135105, 1944215332922207567874, 1944215332922207567875], [497866986569273429721092, 111050674470913, 1870572075557467586562, 81094181039573630979, 478866451349334508371971, 33243521054214427865252036612, 1981829114001725980677, 174355504796008454], [30240312408408070, 29950039610687493, 144232184729829382, 497866986569271718445060, 133460706608956331817893892, 1981468826031536340997, 174350007237869574, 30234814850269190], [31075939517530117, 144236582776340486, 1944792919583007768581, 7596847342121123846]]
noncomputable def vd_1012_0 : List (List (List Nat)) := [vd_1012_0_0, vd_1012_0_1]
noncomputable def vd_1012 : List (List (List (List Nat))) := [vd_1012_0]
noncomputable def vt_1012 : List (List am_I) := [[(.ofNat 0, .ofNat 4), (.negSucc 3, .negSucc 3), (.ofNat 2, .ofNat 5), (.ofNat 0, .ofNat 5), (.ofNat 1, .ofNat 6), (.ofNat 157, .ofNat 160), (.ofNat 1, .ofNat 3), (.ofNat 0, .ofNat 160)], [(.ofNat 0, .ofNat 3), (.ofNat 156, .ofNat 160), (.ofNat 158, .ofNat 160)]]
noncomputable def vc_1012 : vm_C := (fun _ => vp_1012, fun pc => (match Nat.beq pc 0 with
  | true => [(fun _ _ => some (.inr (62, 8)), fun _ _ => some [.ofNat 5])]
  | false => (match Nat.beq pc 18 with
  | true => [(fun _ _ => some (.inl 1), fun _ _ => some [.ofNat 0, .ofNat 1, .ofNat 2, .ofNat 3, .ofNat 4, .ofNat 5, .ofNat 6, .ofNat 7])]
  | false => [])), [18, 62, 107, 111, 124, 149], 108, vm_inst 8 101 vt_1012 vf_1012 vd_1012)
theorem vx_1012_0 : vm_chk bt_155 [] vk_1012 29 vc_1012 0 12 = true := by decide +kernel
theorem vx_1012_1 : vm_chk bt_155 [] vk_1012 29 vc_1012 12 17 = true := by decide +kernel
theorem vx_1012_2 : vm_chk bt_155 [] vk_1012 29 vc_1012 29 15 = true := by decide +kernel
theorem vx_1012_3 : vm_chk bt_155 [] vk_1012 29 vc_1012 44 12 = true := by decide +kernel
theorem vx_1012_4 : vm_chk bt_155 [] vk_1012 29 vc_1012 56 18 = true := by decide +kernel
theorem vx_1012_5 : vm_chk bt_155 [] vk_1012 29 vc_1012 74 17 = true := by decide +kernel
theorem vx_1012_6 : vm_chk bt_155 [] vk_1012 29 vc_1012 91 17 = true := by decide +kernel
theorem vy_1012 : vm_ents 155 29 vc_1012 ve_1012 = true := by decide +kernel
theorem vw_1012 : ∀ q ∈ vk_1012, vm_wt 6 q := vm_wts (vm_kc (vm_up (vj_898 158 (by decide)) rfl) (vm_kc (vm_up (vj_898 157 (by decide)) rfl) (vm_kc (vm_up (vj_898 156 (by decide)) rfl) (vm_kc (vm_up v_899 rfl) (vm_kc (vm_up v_830 rfl) (vm_kc (vm_up v_832 rfl) (vm_kc (vm_up v_842 rfl) (vm_kc (vm_up v_844 rfl) (vm_kc (vm_up v_848 rfl) (vm_kc (vm_up v_850 rfl) (vm_kc (vm_up v_851 rfl) (vm_kc (vm_up v_917 rfl) (vm_kc (vm_up (v_F_rlo_0 157 (by decide) (by decide)) rfl) (vm_kc (vm_up v_990 rfl) (vm_kc (vm_up (v_F_rlo_2 157 (by decide) (by decide)) rfl) (vm_kc (vm_up (v_F_rlo_3 157 (by decide) (by decide)) rfl) (vm_kc (vm_up (v_F_rlo_6 157 (by decide) (by decide)) rfl) (vm_kc (vm_up (v_F_rlo_4 157 (by decide) (by decide)) rfl) (vm_kc (vm_up (v_F_rlo_5 157 (by decide) (by decide)) rfl) (vm_kc (vm_up (v_F_rlo_0 156 (by decide) (by decide)) rfl) (vm_kc (vm_up v_1006 rfl) (vm_kc (vm_up (v_F_rlo_2 156 (by decide) (by decide)) rfl) (vm_kc (vm_up (v_F_rlo_3 156 (by decide) (by decide)) rfl) (vm_kc (vm_up (v_F_rlo_6 156 (by decide) (by decide)) rfl) (vm_kc (vm_up (v_F_rlo_4 156 (by decide) (by decide)) rfl) (vm_kc (vm_up (v_F_rlo_5 156 (by decide) (by decide)) rfl) vm_kn)))))))))))))))))))))))))) (by decide +kernel)
theorem v_1012 : vm_at 7 q_1012 := vm_ok (inl := []) (es := ve_1012) bq_155 (by decide) vw_1012 vy_1012 (fun i => vm_hc vx_1012_6 rfl (vm_hc vx_1012_5 rfl (vm_hc vx_1012_4 rfl (vm_hc vx_1012_3 rfl (vm_hc vx_1012_2 rfl (vm_hc vx_1012_1 rfl (vm_hc vx_1012_0 rfl (fun h => absurd h (Nat.not_lt_zero _))))))))) _ List.mem_cons_self
noncomputable def va_c249 : am_C := .inr (.inr (.inr (7, [.inr (.inr (some 71)), .inr (.inr (some 72)), .inl (.ofNat 2, .ofNat 5), .inl (.ofNat 2, .ofNat 5), .inl (.ofNat 0, .ofNat 5), .inr (.inr (some 73)), .inl (.ofNat 2, .ofNat 5), .inl (.ofNat 2, .ofNat 5), .inl (.ofNat 0, .ofNat 5), .inl am_top, .inl am_top, .inl am_top, .inr (.inr (some 74)), .inl (.ofNat 0, .ofNat 160), .inl (.ofNat 155, .ofNat 160), .inl (.ofNat 0, .ofNat 160), .inl (.ofNat 1, .ofNat 3), .inl am_top, .inl (.ofNat 0, .ofNat 0), .inl am_top, .inr (.inr (some 75)), .inr (.inr (some 76)), .inr (.inr (some 77)), .inr (.inr (some 78)), .inr (.inr (some 79)), .inr (.inr (some 80)), .inr (.inr (some 81)), .inl (.negSucc 0, .ofNat 6), .inr (.inr (some 82)), .inr (.inr (some 83)), .inr (.inr (some 84)), .inr (.inr (some 85)), .inr (.inr (some 86)), .inl am_top, .inr (.inr (some 87))])))
noncomputable def va_h362 : am_H := (80, [(62, va_c249)])
noncomputable def vp_1028 : List vm_R := [(none, va_h168), (none, va_h358), (none, va_h359)]
noncomputable def ve_1028 : List vm_E := [([.inr (.inr (some 70))], va_h362, 0, [0, 46])]
noncomputable def q_1028 : vm_Q := (155, [.inr (.inr (some 70))], va_h362, vp_1028)
noncomputable def vk_1028 : List vm_U := [((qj_898 157), false, [(7, 62, 6), (7, 62, 7)]), ((qj_898 156), false, [(7, 62, 6), (7, 62, 7)]), ((qj_898 155), false, [(7, 62, 6), (7, 62, 7), (7, 62, 8)]), (q_899, false, [(7, 62, 8)]), (q_830, false, [(7, 62, 8), (7, 62, 14), (7, 62, 16)]), (q_832, false, [(7, 62, 8), (7, 62, 14), (7, 62, 16)]), (q_842, false, [(7, 62, 8), (7, 62, 14), (7, 62, 16)]), (q_844, false, [(7, 62, 8), (7, 62, 14), (7, 62, 16)]), (q_848, false, [(7, 62, 8), (7, 62, 14), (7, 62, 16)]), (q_850, false, [(7, 62, 8), (7, 62, 14), (7, 62, 16)]), (q_851, false, [(7, 62, 6), (7, 62, 7), (7, 62, 8), (7, 62, 14), (7, 62, 16)]), (q_917, true, []), ((q_F_rlo_0 156), false, []), (q_1006, false, []), ((q_F_rlo_2 156), false, []), ((q_F_rlo_3 156), false, []), ((q_F_rlo_6 156), false, []), ((q_F_rlo_4 156), false, []), ((q_F_rlo_5 156), false, []), ((q_F_rlo_0 155), false, []), ((q_F_rlo_1 155), false, []), ((q_F_rlo_2 155), false, []), ((q_F_rlo_3 155), false, []), ((q_F_rlo_6 155), false, []), ((q_F_rlo_4 155), false, []), ((q_F_rlo_5 155), false, [])]
noncomputable def vf_1028 : List ((Nat → am_I) → vm_A) := [fun v => (0, [(0, .inr (.inr (some 70)))], [], (80, [(62, .inr (.inr (.inr (7, [.inr (.inr (some 71)), .inr (.inr (some 72)), .inl (.ofNat 2, .ofNat 5), .inl (.ofNat 2, .ofNat 5), .inl (.ofNat 0, .ofNat 5), .inr (.inr (some 73)), .inl (.ofNat 2, .ofNat 5), .inl (.ofNat 2, .ofNat 5), .inl (v 0), .inl am_top, .inl am_top, .inl am_top, .inr (.inr (some 74)), .inl (.ofNat 0, .ofNat 160), .inl (.ofNat 155, .ofNat 160), .inl (.ofNat 0, .ofNat 160), .inl (.ofNat 1, .ofNat 3), .inl am_top, .inl (.ofNat 0, .ofNat 0), .inl am_top, .inr (.inr (some 75)), .inr (.inr (some 76)), .inr (.inr (some 77)), .inr (.inr (some 78)), .inr (.inr (some 79)), .inr (.inr (some 80)), .inr (.inr (some 81)), .inl (.negSucc 0, .ofNat 6), .inr (.inr (some 82)), .inr (.inr (some 83)), .inr (.inr (some 84)), .inr (.inr (some 85)), .inr (.inr (some 86)), .inl am_top, .inr (.inr (some 87))]))))])), fun v => (18, [(0, .inr (.inr (some 70))), (1, .inl (v 0))], [], (80, [(62, .inr (.inr (.inr (7, [.inr (.inr (some 71)), .inr (.inr (some 72)), .inl (.ofNat 2, .ofNat 5), .inl (.ofNat 2, .ofNat 5), .inl (.ofNat 0, .ofNat 5), .inr (.inr (some 73)), .inl (.ofNat 2, .ofNat 5), .inl (.ofNat 2, .ofNat 5), .inl (v 1), .inl am_top, .inl am_top, .inl am_top, .inr (.inr (some 74)), .inl (.ofNat 0, .ofNat 160), .inl (.ofNat 155, .ofNat 160), .inl (.ofNat 0, .ofNat 160), .inl (.ofNat 1, .ofNat 3), .inl am_top, .inl (.ofNat 0, .ofNat 0), .inl am_top, .inr (.inr (some 75)), .inr (.inr (some 76)), .inr (.inr (some 77)), .inr (.inr (some 78)), .inr (.inr (some 79)), .inr (.inr (some 80)), .inr (.inr (some 81)), .inl (.negSucc 0, .ofNat 6), .inr (.inr (some 82)), .inr (.inr (some 83)), .inr (.inr (some 84)), .inr (.inr (some 85)), .inr (.inr (some 86)), .inl am_top, .inr (.inr (some 87))]))))])), fun v => (62, [(0, .inr (.inr (some 70))), (1, .inl (v 0))], [], (80, [(62, .inr (.inr (.inr (7, [.inr (.inr (some 71)), .inr (.inr (some 72)), .inl (.ofNat 2, .ofNat 5), .inl (.ofNat 2, .ofNat 5), .inl (.ofNat 0, .ofNat 5), .inr (.inr (some 73)), .inl (v 1), .inl (v 2), .inl (v 3), .inl am_top, .inl am_top, .inl am_top, .inr (.inr (some 74)), .inl (.ofNat 0, .ofNat 160), .inl (.ofNat 155, .ofNat 160), .inl (.ofNat 0, .ofNat 160), .inl (.ofNat 1, .ofNat 3), .inl am_top, .inl (v 4), .inl am_top, .inr (.inr (some 75)), .inr (.inr (some 76)), .inr (.inr (some 77)), .inr (.inr (some 78)), .inr (.inr (some 79)), .inr (.inr (some 80)), .inr (.inr (some 81)), .inl (.negSucc 0, .ofNat 6), .inr (.inr (some 82)), .inr (.inr (some 83)), .inr (.inr (some 84)), .inr (.inr (some 85)), .inr (.inr (some 86)), .inl am_top, .inr (.inr (some 87))]))))])), fun v => (107, [(0, .inr (.inr (some 70))), (1, .inl (v 0))], [], (80, [(62, .inr (.inr (.inr (7, [.inr (.inr (some 71)), .inr (.inr (some 72)), .inl (.ofNat 2, .ofNat 5), .inl (.ofNat 2, .ofNat 5), .inl (.ofNat 0, .ofNat 5), .inr (.inr (some 73)), .inl (v 1), .inl (v 2), .inl (v 3), .inl am_top, .inl am_top, .inl am_top, .inr (.inr (some 74)), .inl (.ofNat 0, .ofNat 160), .inl (.ofNat 155, .ofNat 160), .inl (.ofNat 0, .ofNat 160), .inl (.ofNat 1, .ofNat 3), .inl am_top, .inl (v 4), .inl am_top, .inr (.inr (some 75)), .inr (.inr (some 76)), .inr (.inr (some 77)), .inr (.inr (some 78)), .inr (.inr (some 79)), .inr (.inr (some 80)), .inr (.inr (some 81)), .inl (.negSucc 0, .ofNat 6), .inr (.inr (some 82)), .inr (.inr (some 83)), .inr (.inr (some 84)), .inr (.inr (some 85)), .inr (.inr (some 86)), .inl am_top, .inr (.inr (some 87))]))))])), fun v => (111, [(0, .inr (.inr (some 70))), (1, .inl (v 0))], [], (80, [(62, .inr (.inr (.inr (7, [.inr (.inr (some 71)), .inr (.inr (some 72)), .inl (.ofNat 2, .ofNat 5), .inl (.ofNat 2, .ofNat 5), .inl (.ofNat 0, .ofNat 5), .inr (.inr (some 73)), .inl (v 1), .inl (v 2), .inl (v 3), .inl am_top, .inl am_top, .inl am_top, .inr (.inr (some 74)), .inl (.ofNat 0, .ofNat 160), .inl (v 4), .inl (.ofNat 0, .ofNat 160), .inl (v 5), .inl am_top, .inl (v 6), .inl am_top, .inr (.inr (some 75)), .inr (.inr (some 76)), .inr (.inr (some 77)), .inr (.inr (some 78)), .inr (.inr (some 79)), .inr (.inr (some 80)), .inr (.inr (some 81)), .inl (.negSucc 0, .ofNat 6), .inr (.inr (some 82)), .inr (.inr (some 83)), .inr (.inr (some 84)), .inr (.inr (some 85)), .inr (.inr (some 86)), .inl am_top, .inr (.inr (some 87))]))))])), fun v => (124, [(0, .inr (.inr (some 70))), (1, .inl am_top)], [], (80, [(62, .inr (.inr (.inr (7, [.inr (.inr (some 71)), .inr (.inr (some 72)), .inl (.ofNat 2, .ofNat 5), .inl (.ofNat 2, .ofNat 5), .inl (.ofNat 0, .ofNat 5), .inr (.inr (some 73)), .inl (v 0), .inl (v 1), .inl (.ofNat 0, .ofNat 5), .inl am_top, .inl am_top, .inl am_top, .inr (.inr (some 74)), .inl (.ofNat 0, .ofNat 160), .inl (v 2), .inl (.ofNat 0, .ofNat 160), .inl (v 3), .inl am_top, .inl (v 4), .inl am_top, .inr (.inr (some 75)), .inr (.inr (some 76)), .inr (.inr (some 77)), .inr (.inr (some 78)), .inr (.inr (some 79)), .inr (.inr (some 80)), .inr (.inr (some 81)), .inl (.negSucc 0, .ofNat 6), .inr (.inr (some 82)), .inr (.inr (some 83)), .inr (.inr (some 84)), .inr (.inr (some 85)), .inr (.inr (some 86)), .inl am_top, .inr (.inr (some 87))]))))])), fun v => (149, [(0, .inr (.inr (some 70))), (1, .inl am_top)], [], (80, [(62, .inr (.inr (.inr (7, [.inr (.inr (some 71)), .inr (.inr (some 72)), .inl (.ofNat 2, .ofNat 5), .inl (.ofNat 2, .ofNat 5), .inl (.ofNat 0, .ofNat 5), .inr (.inr (some 73)), .inl (v 0), .inl (v 1), .inl (.ofNat 0, .ofNat 5), .inl am_top, .inl am_top, .inl am_top, .inr (.inr (some 74)), .inl (.ofNat 0, .ofNat 160), .inl (v 2), .inl (.ofNat 0, .ofNat 160), .inl (v 3), .inl am_top, .inl (v 4), .inl am_top, .inr (.inr (some 75)), .inr (.inr (some 76)), .inr (.inr (some 77)), .inr (.inr (some 78)), .inr (.inr (some 79)), .inr (.inr (some 80)), .inr (.inr (some 81)), .inl (.negSucc 0, .ofNat 6), .inr (.inr (some 82)), .inr (.inr (some 83)), .inr (.inr (some 84)), .inr (.inr (some 85)), .inr (.inr (some 86)), .inl am_top, .inr (.inr (some 87))]))))]))]
noncomputable def vd_1028_0_0 : List (List Nat) := [[1593525308956360063740018688, 5501853171713, 99684645580862259202, 74176652016143630339, 25519269269804511592451, 33243067707032450990744993796, 497866959547673970999300, 133007359426984976427712516], [5506148139009, 99684646680373886978, 74176652020438597635, 25519269551279488303107, 33243067707032724738958098436, 497866959547673987776516, 133007359427258724640817156, 5510443106305], [389393155373465602, 25519269832754465013763, 33243067707032999590994575364, 497866959547674004553732, 133007359427533576677294084, 5514738073601, 92623396102704529410, 92623396102704529411], [497866959547674021330948, 5519033040897, 92623396106999496706, 92623396106999496707, 497866959547674038108164, 5523328008193, 389393168258367490, 25519270677179395145731], [33243067707033828562397495300, 497866959547674054885380, 133007359428362548080214020, 5935644868609, 1937297803894566486018, 1937297803894566486019, 497866959547675665498116, 5497558204417], [99684644481350631426, 74176652011848663043, 25519268988329534881795, 33243067707032127570480136196, 497866959547673954222084, 133007359426661556162854916, 31308940918480968139512741888, 111054969438209], [1870572076656979214338, 81094181043784712195, 478866451625290452107267, 33243521054214755700810383364, 497866986569271735222276, 133460706609289686493102084, 111059264405505, 1870572077756490842114], [81094181048079679491, 478866451906765428817923, 33243521054215029449023488004, 497866986569271751999492, 133460706609563434706206724, 111063559372801, 7306922183014547458, 478866452188240405528579]]
noncomputable def vd_1028_0_1 : List (List Nat) := [[33243521054215304301059964932, 497866986569271768776708, 133460706609838286742683652, 111067854340097, 7306922187309514754, 478866452469715382239235, 33243521054215579153096441860, 497866986569271785553924], [133460706610113138779160580, 111072149307393, 7306922191604482050, 478866452751190358949891, 33243521054215854005132918788, 497866986569271802331140, 133460706610387990815637508, 111076444274689], [7306922195899449346, 478866453032665335660547, 33243521054216128857169395716, 497866986569271819108356, 133460706610662842852114436, 111488761135105, 1944215332922207567874, 1944215332922207567875], [497866986569273429721092, 111050674470913, 1870572075557467586562, 81094181039573630979, 478866451349334508371971, 33243521054214427865252036612, 1981829114001725980677, 174355504796008454], [30240312408408070, 29950039610687493, 144232184729829382, 497866986569271718445060, 133460706608956331817893892, 1981468826031536340997, 174350007237869574, 30234814850269190], [31075939517530117, 144236582776340486, 1944792919583007768581, 7596847342121123846]]
noncomputable def vd_1028_0 : List (List (List Nat)) := [vd_1028_0_0, vd_1028_0_1]
noncomputable def vd_1028 : List (List (List (List Nat))) := [vd_1028_0]
noncomputable def vt_1028 : List (List am_I) := [[(.ofNat 0, .ofNat 4), (.negSucc 3, .negSucc 3), (.ofNat 2, .ofNat 5), (.ofNat 0, .ofNat 5), (.ofNat 1, .ofNat 6), (.ofNat 156, .ofNat 160), (.ofNat 1, .ofNat 3), (.ofNat 0, .ofNat 160)], [(.ofNat 0, .ofNat 3), (.ofNat 155, .ofNat 160), (.ofNat 157, .ofNat 160)]]
noncomputable def vc_1028 : vm_C := (fun _ => vp_1028, fun pc => (match Nat.beq pc 0 with
  | true => [(fun _ _ => some (.inr (62, 8)), fun _ _ => some [.ofNat 5])]
  | false => (match Nat.beq pc 18 with
  | true => [(fun _ _ => some (.inl 1), fun _ _ => some [.ofNat 0, .ofNat 1, .ofNat 2, .ofNat 3, .ofNat 4, .ofNat 5, .ofNat 6, .ofNat 7])]
  | false => [])), [18, 62, 107, 111, 124, 149], 108, vm_inst 8 101 vt_1028 vf_1028 vd_1028)
theorem vx_1028_0 : vm_chk bt_155 [] vk_1028 29 vc_1028 0 12 = true := by decide +kernel
theorem vx_1028_1 : vm_chk bt_155 [] vk_1028 29 vc_1028 12 17 = true := by decide +kernel
theorem vx_1028_2 : vm_chk bt_155 [] vk_1028 29 vc_1028 29 15 = true := by decide +kernel
theorem vx_1028_3 : vm_chk bt_155 [] vk_1028 29 vc_1028 44 12 = true := by decide +kernel
theorem vx_1028_4 : vm_chk bt_155 [] vk_1028 29 vc_1028 56 18 = true := by decide +kernel
theorem vx_1028_5 : vm_chk bt_155 [] vk_1028 29 vc_1028 74 17 = true := by decide +kernel
theorem vx_1028_6 : vm_chk bt_155 [] vk_1028 29 vc_1028 91 17 = true := by decide +kernel
theorem vy_1028 : vm_ents 155 29 vc_1028 ve_1028 = true := by decide +kernel
theorem vw_1028 : ∀ q ∈ vk_1028, vm_wt 6 q := vm_wts (vm_kc (vm_up (vj_898 157 (by decide)) rfl) (vm_kc (vm_up (vj_898 156 (by decide)) rfl) (vm_kc (vm_up (vj_898 155 (by decide)) rfl) (vm_kc (vm_up v_899 rfl) (vm_kc (vm_up v_830 rfl) (vm_kc (vm_up v_832 rfl) (vm_kc (vm_up v_842 rfl) (vm_kc (vm_up v_844 rfl) (vm_kc (vm_up v_848 rfl) (vm_kc (vm_up v_850 rfl) (vm_kc (vm_up v_851 rfl) (vm_kc (vm_up v_917 rfl) (vm_kc (vm_up (v_F_rlo_0 156 (by decide) (by decide)) rfl) (vm_kc (vm_up v_1006 rfl) (vm_kc (vm_up (v_F_rlo_2 156 (by decide) (by decide)) rfl) (vm_kc (vm_up (v_F_rlo_3 156 (by decide) (by decide)) rfl) (vm_kc (vm_up (v_F_rlo_6 156 (by decide) (by decide)) rfl) (vm_kc (vm_up (v_F_rlo_4 156 (by decide) (by decide)) rfl) (vm_kc (vm_up (v_F_rlo_5 156 (by decide) (by decide)) rfl) (vm_kc (vm_up (v_F_rlo_0 155 (by decide) (by decide)) rfl) (vm_kc (vm_up (v_F_rlo_1 155 (by decide) (by decide)) rfl) (vm_kc (vm_up (v_F_rlo_2 155 (by decide) (by decide)) rfl) (vm_kc (vm_up (v_F_rlo_3 155 (by decide) (by decide)) rfl) (vm_kc (vm_up (v_F_rlo_6 155 (by decide) (by decide)) rfl) (vm_kc (vm_up (v_F_rlo_4 155 (by decide) (by decide)) rfl) (vm_kc (vm_up (v_F_rlo_5 155 (by decide) (by decide)) rfl) vm_kn)))))))))))))))))))))))))) (by decide +kernel)
theorem v_1028 : vm_at 7 q_1028 := vm_ok (inl := []) (es := ve_1028) bq_155 (by decide) vw_1028 vy_1028 (fun i => vm_hc vx_1028_6 rfl (vm_hc vx_1028_5 rfl (vm_hc vx_1028_4 rfl (vm_hc vx_1028_3 rfl (vm_hc vx_1028_2 rfl (vm_hc vx_1028_1 rfl (vm_hc vx_1028_0 rfl (fun h => absurd h (Nat.not_lt_zero _))))))))) _ List.mem_cons_self
noncomputable def va_c250 : am_C := .inr (.inr (.inr (7, [.inr (.inr (some 71)), .inr (.inr (some 72)), .inl (.ofNat 2, .ofNat 5), .inl (.ofNat 2, .ofNat 5), .inl (.ofNat 0, .ofNat 5), .inr (.inr (some 73)), .inl (.ofNat 2, .ofNat 5), .inl (.ofNat 2, .ofNat 5), .inl (.ofNat 0, .ofNat 5), .inl am_top, .inl am_top, .inl am_top, .inr (.inr (some 74)), .inl (.ofNat 0, .ofNat 160), .inl (.ofNat 1, .ofNat 160), .inl (.ofNat 0, .ofNat 160), .inl (.ofNat 0, .ofNat 0), .inl am_top, .inl (.ofNat 0, .ofNat 0), .inl am_top, .inr (.inr (some 75)), .inr (.inr (some 76)), .inr (.inr (some 77)), .inr (.inr (some 78)), .inr (.inr (some 79)), .inr (.inr (some 80)), .inr (.inr (some 81)), .inl (.negSucc 0, .ofNat 6), .inr (.inr (some 82)), .inr (.inr (some 83)), .inr (.inr (some 84)), .inr (.inr (some 85)), .inr (.inr (some 86)), .inl am_top, .inr (.inr (some 87))])))
noncomputable def va_h363 : am_H := (80, [(62, va_c250)])
noncomputable def va_c251 : am_C := .inr (.inr (.inr (7, [.inr (.inr (some 71)), .inr (.inr (some 72)), .inl (.ofNat 2, .ofNat 5), .inl (.ofNat 2, .ofNat 5), .inl (.ofNat 0, .ofNat 5), .inr (.inr (some 73)), .inl (.ofNat 2, .ofNat 5), .inl (.ofNat 2, .ofNat 5), .inl (.ofNat 0, .ofNat 5), .inl am_top, .inl am_top, .inl am_top, .inr (.inr (some 74)), .inl (.ofNat 0, .ofNat 160), .inl (.ofNat 2, .ofNat 160), .inl (.ofNat 0, .ofNat 160), .inl (.ofNat 1, .ofNat 3), .inl am_top, .inl (.ofNat 0, .ofNat 0), .inl am_top, .inr (.inr (some 75)), .inr (.inr (some 76)), .inr (.inr (some 77)), .inr (.inr (some 78)), .inr (.inr (some 79)), .inr (.inr (some 80)), .inr (.inr (some 81)), .inl (.negSucc 0, .ofNat 6), .inr (.inr (some 82)), .inr (.inr (some 83)), .inr (.inr (some 84)), .inr (.inr (some 85)), .inr (.inr (some 86)), .inl am_top, .inr (.inr (some 87))])))
noncomputable def va_h364 : am_H := (80, [(62, va_c251)])
noncomputable def va_c252 : am_C := .inr (.inr (.inr (7, [.inr (.inr (some 71)), .inr (.inr (some 72)), .inl (.ofNat 2, .ofNat 5), .inl (.ofNat 2, .ofNat 5), .inl (.ofNat 0, .ofNat 5), .inr (.inr (some 73)), .inl (.ofNat 2, .ofNat 5), .inl (.ofNat 2, .ofNat 5), .inl (.ofNat 0, .ofNat 5), .inl am_top, .inl am_top, .inl am_top, .inr (.inr (some 74)), .inl (.ofNat 0, .ofNat 160), .inl (.ofNat 0, .ofNat 160), .inl (.ofNat 0, .ofNat 160), .inl (.ofNat 1, .ofNat 3), .inl am_top, .inl (.ofNat 0, .ofNat 0), .inl am_top, .inr (.inr (some 75)), .inr (.inr (some 76)), .inr (.inr (some 77)), .inr (.inr (some 78)), .inr (.inr (some 79)), .inr (.inr (some 80)), .inr (.inr (some 81)), .inl (.negSucc 0, .ofNat 6), .inr (.inr (some 82)), .inr (.inr (some 83)), .inr (.inr (some 84)), .inr (.inr (some 85)), .inr (.inr (some 86)), .inl am_top, .inr (.inr (some 87))])))
noncomputable def va_h365 : am_H := (80, [(62, va_c252)])
noncomputable def vp_3508 : List vm_R := [(none, va_h168), (none, va_h363), (none, va_h364)]
noncomputable def ve_3508 : List vm_E := [([.inr (.inr (some 70))], va_h365, 0, [0, 46])]
noncomputable def q_3508 : vm_Q := (155, [.inr (.inr (some 70))], va_h365, vp_3508)
noncomputable def vk_3508 : List vm_U := [((qj_898 2), false, [(7, 62, 6), (7, 62, 7)]), ((qj_898 1), false, [(7, 62, 6), (7, 62, 7)]), ((qj_898 0), false, [(7, 62, 6), (7, 62, 7), (7, 62, 8)]), (q_899, false, [(7, 62, 8)]), (q_830, false, [(7, 62, 8), (7, 62, 14), (7, 62, 16)]), (q_832, false, [(7, 62, 8), (7, 62, 14), (7, 62, 16)]), (q_842, false, [(7, 62, 8), (7, 62, 16)]), (q_844, false, [(7, 62, 8), (7, 62, 16)]), (q_848, false, [(7, 62, 8), (7, 62, 16)]), (q_850, false, [(7, 62, 8), (7, 62, 16)]), (q_851, false, [(7, 62, 6), (7, 62, 7), (7, 62, 8), (7, 62, 16)]), (q_917, true, []), ((q_F_rlo_0 1), false, []), ((q_F_rlo_1 1), false, []), ((q_F_rlo_2 1), false, []), ((q_F_rlo_3 1), false, []), ((q_F_rlo_6 1), false, []), ((q_F_rlo_4 1), false, []), ((q_F_rlo_5 1), false, []), (q_3501, false, []), (q_3502, false, []), (q_3503, false, []), (q_3504, false, []), (q_3505, false, []), (q_3506, false, []), (q_3507, false, [])]
noncomputable def vf_3508 : List ((Nat → am_I) → vm_A) := [fun v => (0, [(0, .inr (.inr (some 70)))], [], (80, [(62, .inr (.inr (.inr (7, [.inr (.inr (some 71)), .inr (.inr (some 72)), .inl (.ofNat 2, .ofNat 5), .inl (.ofNat 2, .ofNat 5), .inl (.ofNat 0, .ofNat 5), .inr (.inr (some 73)), .inl (.ofNat 2, .ofNat 5), .inl (.ofNat 2, .ofNat 5), .inl (v 0), .inl am_top, .inl am_top, .inl am_top, .inr (.inr (some 74)), .inl (.ofNat 0, .ofNat 160), .inl (.ofNat 0, .ofNat 160), .inl (.ofNat 0, .ofNat 160), .inl (.ofNat 1, .ofNat 3), .inl am_top, .inl (.ofNat 0, .ofNat 0), .inl am_top, .inr (.inr (some 75)), .inr (.inr (some 76)), .inr (.inr (some 77)), .inr (.inr (some 78)), .inr (.inr (some 79)), .inr (.inr (some 80)), .inr (.inr (some 81)), .inl (.negSucc 0, .ofNat 6), .inr (.inr (some 82)), .inr (.inr (some 83)), .inr (.inr (some 84)), .inr (.inr (some 85)), .inr (.inr (some 86)), .inl am_top, .inr (.inr (some 87))]))))])), fun v => (18, [(0, .inr (.inr (some 70))), (1, .inl (v 0))], [], (80, [(62, .inr (.inr (.inr (7, [.inr (.inr (some 71)), .inr (.inr (some 72)), .inl (.ofNat 2, .ofNat 5), .inl (.ofNat 2, .ofNat 5), .inl (.ofNat 0, .ofNat 5), .inr (.inr (some 73)), .inl (.ofNat 2, .ofNat 5), .inl (.ofNat 2, .ofNat 5), .inl (v 1), .inl am_top, .inl am_top, .inl am_top, .inr (.inr (some 74)), .inl (.ofNat 0, .ofNat 160), .inl (.ofNat 0, .ofNat 160), .inl (.ofNat 0, .ofNat 160), .inl (.ofNat 1, .ofNat 3), .inl am_top, .inl (.ofNat 0, .ofNat 0), .inl am_top, .inr (.inr (some 75)), .inr (.inr (some 76)), .inr (.inr (some 77)), .inr (.inr (some 78)), .inr (.inr (some 79)), .inr (.inr (some 80)), .inr (.inr (some 81)), .inl (.negSucc 0, .ofNat 6), .inr (.inr (some 82)), .inr (.inr (some 83)), .inr (.inr (some 84)), .inr (.inr (some 85)), .inr (.inr (some 86)), .inl am_top, .inr (.inr (some 87))]))))])), fun v => (62, [(0, .inr (.inr (some 70))), (1, .inl (v 0))], [], (80, [(62, .inr (.inr (.inr (7, [.inr (.inr (some 71)), .inr (.inr (some 72)), .inl (.ofNat 2, .ofNat 5), .inl (.ofNat 2, .ofNat 5), .inl (.ofNat 0, .ofNat 5), .inr (.inr (some 73)), .inl (v 1), .inl (v 2), .inl (v 3), .inl am_top, .inl am_top, .inl am_top, .inr (.inr (some 74)), .inl (.ofNat 0, .ofNat 160), .inl (.ofNat 0, .ofNat 160), .inl (.ofNat 0, .ofNat 160), .inl (.ofNat 1, .ofNat 3), .inl am_top, .inl (v 4), .inl am_top, .inr (.inr (some 75)), .inr (.inr (some 76)), .inr (.inr (some 77)), .inr (.inr (some 78)), .inr (.inr (some 79)), .inr (.inr (some 80)), .inr (.inr (some 81)), .inl (.negSucc 0, .ofNat 6), .inr (.inr (some 82)), .inr (.inr (some 83)), .inr (.inr (some 84)), .inr (.inr (some 85)), .inr (.inr (some 86)), .inl am_top, .inr (.inr (some 87))]))))])), fun v => (107, [(0, .inr (.inr (some 70))), (1, .inl (v 0))], [], (80, [(62, .inr (.inr (.inr (7, [.inr (.inr (some 71)), .inr (.inr (some 72)), .inl (.ofNat 2, .ofNat 5), .inl (.ofNat 2, .ofNat 5), .inl (.ofNat 0, .ofNat 5), .inr (.inr (some 73)), .inl (v 1), .inl (v 2), .inl (v 3), .inl am_top, .inl am_top, .inl am_top, .inr (.inr (some 74)), .inl (.ofNat 0, .ofNat 160), .inl (.ofNat 0, .ofNat 160), .inl (.ofNat 0, .ofNat 160), .inl (.ofNat 1, .ofNat 3), .inl am_top, .inl (v 4), .inl am_top, .inr (.inr (some 75)), .inr (.inr (some 76)), .inr (.inr (some 77)), .inr (.inr (some 78)), .inr (.inr (some 79)), .inr (.inr (some 80)), .inr (.inr (some 81)), .inl (.negSucc 0, .ofNat 6), .inr (.inr (some 82)), .inr (.inr (some 83)), .inr (.inr (some 84)), .inr (.inr (some 85)), .inr (.inr (some 86)), .inl am_top, .inr (.inr (some 87))]))))])), fun v => (111, [(0, .inr (.inr (some 70))), (1, .inl (v 0))], [], (80, [(62, .inr (.inr (.inr (7, [.inr (.inr (some 71)), .inr (.inr (some 72)), .inl (.ofNat 2, .ofNat 5), .inl (.ofNat 2, .ofNat 5), .inl (.ofNat 0, .ofNat 5), .inr (.inr (some 73)), .inl (v 1), .inl (v 2), .inl (v 3), .inl am_top, .inl am_top, .inl am_top, .inr (.inr (some 74)), .inl (.ofNat 0, .ofNat 160), .inl (v 4), .inl (.ofNat 0, .ofNat 160), .inl (v 5), .inl am_top, .inl (v 6), .inl am_top, .inr (.inr (some 75)), .inr (.inr (some 76)), .inr (.inr (some 77)), .inr (.inr (some 78)), .inr (.inr (some 79)), .inr (.inr (some 80)), .inr (.inr (some 81)), .inl (.negSucc 0, .ofNat 6), .inr (.inr (some 82)), .inr (.inr (some 83)), .inr (.inr (some 84)), .inr (.inr (some 85)), .inr (.inr (some 86)), .inl am_top, .inr (.inr (some 87))]))))])), fun v => (124, [(0, .inr (.inr (some 70))), (1, .inl am_top)], [], (80, [(62, .inr (.inr (.inr (7, [.inr (.inr (some 71)), .inr (.inr (some 72)), .inl (.ofNat 2, .ofNat 5), .inl (.ofNat 2, .ofNat 5), .inl (.ofNat 0, .ofNat 5), .inr (.inr (some 73)), .inl (v 0), .inl (v 1), .inl (.ofNat 0, .ofNat 5), .inl am_top, .inl am_top, .inl am_top, .inr (.inr (some 74)), .inl (.ofNat 0, .ofNat 160), .inl (v 2), .inl (.ofNat 0, .ofNat 160), .inl (v 3), .inl am_top, .inl (v 4), .inl am_top, .inr (.inr (some 75)), .inr (.inr (some 76)), .inr (.inr (some 77)), .inr (.inr (some 78)), .inr (.inr (some 79)), .inr (.inr (some 80)), .inr (.inr (some 81)), .inl (.negSucc 0, .ofNat 6), .inr (.inr (some 82)), .inr (.inr (some 83)), .inr (.inr (some 84)), .inr (.inr (some 85)), .inr (.inr (some 86)), .inl am_top, .inr (.inr (some 87))]))))])), fun v => (149, [(0, .inr (.inr (some 70))), (1, .inl am_top)], [], (80, [(62, .inr (.inr (.inr (7, [.inr (.inr (some 71)), .inr (.inr (some 72)), .inl (.ofNat 2, .ofNat 5), .inl (.ofNat 2, .ofNat 5), .inl (.ofNat 0, .ofNat 5), .inr (.inr (some 73)), .inl (v 0), .inl (v 1), .inl (.ofNat 0, .ofNat 5), .inl am_top, .inl am_top, .inl am_top, .inr (.inr (some 74)), .inl (.ofNat 0, .ofNat 160), .inl (v 2), .inl (.ofNat 0, .ofNat 160), .inl (v 3), .inl am_top, .inl (v 4), .inl am_top, .inr (.inr (some 75)), .inr (.inr (some 76)), .inr (.inr (some 77)), .inr (.inr (some 78)), .inr (.inr (some 79)), .inr (.inr (some 80)), .inr (.inr (some 81)), .inl (.negSucc 0, .ofNat 6), .inr (.inr (some 82)), .inr (.inr (some 83)), .inr (.inr (some 84)), .inr (.inr (some 85)), .inr (.inr (some 86)), .inl am_top, .inr (.inr (some 87))]))))]))]
noncomputable def vd_3508_0_0 : List (List Nat) := [[1593525308956360063740018688, 5501853171713, 99684645580862259202, 74176652016143630339, 25519269269804511592451, 33243067707032450990744993796, 497866959547673970999300, 130589507787755718078300164], [5506148139009, 99684646680373886978, 74176652020438597635, 25519269551279488303107, 33243067707032724738958098436, 497866959547673987776516, 130589507788029466291404804, 5510443106305], [389393155373465602, 25519269832754465013763, 33243067707032999590994575364, 497866959547674004553732, 130589507788304318327881732, 5514738073601, 92623396102704529410, 92623396102704529411], [497866959547674021330948, 5519033040897, 92623396106999496706, 92623396106999496707, 497866959547674038108164, 5523328008193, 389393168258367490, 25519270677179395145731], [33243067707033828562397495300, 497866959547674054885380, 130589507789133289730801668, 5935644868609, 1937297803894566486018, 1937297803894566486019, 497866959547675665498116, 5497558204417], [99684644481350631426, 74176652011848663043, 25519268988329534881795, 33243067707032127570480136196, 497866959547673954222084, 130589507787432297813442564, 31308940918480968139512741888, 111054969438209], [1870572076656979214338, 81094181043784712195, 478866451625290452107267, 33243521054214755700810383364, 497866986569271735222276, 131042854970060428143689732, 111059264405505, 1870572077756490842114], [81094181048079679491, 478866451906765428817923, 33243521054215029449023488004, 497866986569271751999492, 131042854970334176356794372, 111063559372801, 7306922183014547458, 478866452188240405528579]]
noncomputable def vd_3508_0_1 : List (List Nat) := [[33243521054215304301059964932, 497866986569271768776708, 131042854970609028393271300, 111067854340097, 7306922187309514754, 478866452469715382239235, 33243521054215579153096441860, 497866986569271785553924], [131042854970883880429748228, 111072149307393, 7306922191604482050, 478866452751190358949891, 33243521054215854005132918788, 497866986569271802331140, 131042854971158732466225156, 111076444274689], [7306922195899449346, 478866453032665335660547, 33243521054216128857169395716, 497866986569271819108356, 131042854971433584502702084, 111488761135105, 1944215332922207567874, 1944215332922207567875], [497866986569273429721092, 111050674470913, 1870572075557467586562, 81094181039573630979, 478866451349334508371971, 33243521054214427865252036612, 1981757056407688052741, 174354405284380678], [30239212896780294, 29950039610687493, 144232184729829382, 497866986569271718445060, 131042854969727073468481540, 1981468826031536340997, 174350007237869574, 30234814850269190], [30512989564108805, 144234383753084934, 1944792919583007768581, 7596847342121123846]]
noncomputable def vd_3508_0 : List (List (List Nat)) := [vd_3508_0_0, vd_3508_0_1]
noncomputable def vd_3508 : List (List (List (List Nat))) := [vd_3508_0]
noncomputable def vt_3508 : List (List am_I) := [[(.ofNat 0, .ofNat 4), (.negSucc 3, .negSucc 3), (.ofNat 2, .ofNat 5), (.ofNat 0, .ofNat 5), (.ofNat 1, .ofNat 6), (.ofNat 1, .ofNat 160), (.ofNat 1, .ofNat 3), (.ofNat 0, .ofNat 160)], [(.ofNat 0, .ofNat 3), (.ofNat 2, .ofNat 160)]]
noncomputable def vc_3508 : vm_C := (fun _ => vp_3508, fun pc => (match Nat.beq pc 0 with
  | true => [(fun _ _ => some (.inr (62, 8)), fun _ _ => some [.ofNat 5])]
  | false => (match Nat.beq pc 18 with
  | true => [(fun _ _ => some (.inl 1), fun _ _ => some [.ofNat 0, .ofNat 1, .ofNat 2, .ofNat 3, .ofNat 4, .ofNat 5, .ofNat 6, .ofNat 7])]
  | false => [])), [18, 62, 107, 111, 124, 149], 108, vm_inst 8 101 vt_3508 vf_3508 vd_3508)
theorem vx_3508_0 : vm_chk bt_155 [] vk_3508 29 vc_3508 0 12 = true := by decide +kernel
theorem vx_3508_1 : vm_chk bt_155 [] vk_3508 29 vc_3508 12 17 = true := by decide +kernel
theorem vx_3508_2 : vm_chk bt_155 [] vk_3508 29 vc_3508 29 15 = true := by decide +kernel
theorem vx_3508_3 : vm_chk bt_155 [] vk_3508 29 vc_3508 44 12 = true := by decide +kernel
theorem vx_3508_4 : vm_chk bt_155 [] vk_3508 29 vc_3508 56 18 = true := by decide +kernel
theorem vx_3508_5 : vm_chk bt_155 [] vk_3508 29 vc_3508 74 17 = true := by decide +kernel
theorem vx_3508_6 : vm_chk bt_155 [] vk_3508 29 vc_3508 91 17 = true := by decide +kernel
theorem vy_3508 : vm_ents 155 29 vc_3508 ve_3508 = true := by decide +kernel
theorem vw_3508 : ∀ q ∈ vk_3508, vm_wt 6 q := vm_wts (vm_kc (vm_up (vj_898 2 (by decide)) rfl) (vm_kc (vm_up (vj_898 1 (by decide)) rfl) (vm_kc (vm_up (vj_898 0 (by decide)) rfl) (vm_kc (vm_up v_899 rfl) (vm_kc (vm_up v_830 rfl) (vm_kc (vm_up v_832 rfl) (vm_kc (vm_up v_842 rfl) (vm_kc (vm_up v_844 rfl) (vm_kc (vm_up v_848 rfl) (vm_kc (vm_up v_850 rfl) (vm_kc (vm_up v_851 rfl) (vm_kc (vm_up v_917 rfl) (vm_kc (vm_up (v_F_rlo_0 1 (by decide) (by decide)) rfl) (vm_kc (vm_up (v_F_rlo_1 1 (by decide) (by decide)) rfl) (vm_kc (vm_up (v_F_rlo_2 1 (by decide) (by decide)) rfl) (vm_kc (vm_up (v_F_rlo_3 1 (by decide) (by decide)) rfl) (vm_kc (vm_up (v_F_rlo_6 1 (by decide) (by decide)) rfl) (vm_kc (vm_up (v_F_rlo_4 1 (by decide) (by decide)) rfl) (vm_kc (vm_up (v_F_rlo_5 1 (by decide) (by decide)) rfl) (vm_kc (vm_up v_3501 rfl) (vm_kc (vm_up v_3502 rfl) (vm_kc (vm_up v_3503 rfl) (vm_kc (vm_up v_3504 rfl) (vm_kc (vm_up v_3505 rfl) (vm_kc (vm_up v_3506 rfl) (vm_kc (vm_up v_3507 rfl) vm_kn)))))))))))))))))))))))))) (by decide +kernel)
theorem v_3508 : vm_at 7 q_3508 := vm_ok (inl := []) (es := ve_3508) bq_155 (by decide) vw_3508 vy_3508 (fun i => vm_hc vx_3508_6 rfl (vm_hc vx_3508_5 rfl (vm_hc vx_3508_4 rfl (vm_hc vx_3508_3 rfl (vm_hc vx_3508_2 rfl (vm_hc vx_3508_1 rfl (vm_hc vx_3508_0 rfl (fun h => absurd h (Nat.not_lt_zero _))))))))) _ List.mem_cons_self
