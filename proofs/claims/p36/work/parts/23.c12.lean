noncomputable def vp_F_readFree (s : Nat) : List vm_R := [(some (.inl (.ofNat 0, .ofNat 24)), (80, [(62, .inr (.inr (.inr (7, [.inr (.inr (some 71)), .inr (.inr (some 72)), .inl (.ofNat 2, .ofNat 5), .inl (.ofNat 2, .ofNat 5), .inl (.ofNat 0, .ofNat 5), .inr (.inr (some 73)), .inl (.ofNat 2, .ofNat 5), .inl (.ofNat 2, .ofNat 5), .inl (.ofNat 0, .ofNat 5), .inl am_top, .inl am_top, .inl am_top, .inr (.inr (some 74)), .inl (.ofNat 0, .ofNat 160), .inl (.ofNat (s + 0), .ofNat 160), .inl (.ofNat 0, .ofNat 160), .inl (.ofNat 0, .ofNat 0), .inl am_top, .inl (.ofNat 0, .ofNat 0), .inl am_top, .inr (.inr (some 75)), .inr (.inr (some 76)), .inr (.inr (some 77)), .inr (.inr (some 78)), .inr (.inr (some 79)), .inr (.inr (some 80)), .inr (.inr (some 81)), .inl (.negSucc 0, .ofNat 6), .inr (.inr (some 82)), .inr (.inr (some 83)), .inr (.inr (some 84)), .inr (.inr (some 85)), .inr (.inr (some 86)), .inl am_top, .inr (.inr (some 87))]))))])), (some (.inl (.ofNat 0, .ofNat 24)), (80, [(62, .inr (.inr (.inr (7, [.inr (.inr (some 71)), .inr (.inr (some 72)), .inl (.ofNat 2, .ofNat 5), .inl (.ofNat 2, .ofNat 5), .inl (.ofNat 0, .ofNat 5), .inr (.inr (some 73)), .inl (.ofNat 0, .ofNat 5), .inl (.ofNat 0, .ofNat 5), .inl (.ofNat 0, .ofNat 5), .inl am_top, .inl am_top, .inl am_top, .inr (.inr (some 74)), .inl (.ofNat 0, .ofNat 160), .inl (.ofNat 0, .ofNat 160), .inl (.ofNat 0, .ofNat 160), .inl (.ofNat 0, .ofNat 3), .inl am_top, .inl (.ofNat 1, .ofNat 6), .inl am_top, .inr (.inr (some 75)), .inr (.inr (some 76)), .inr (.inr (some 77)), .inr (.inr (some 78)), .inr (.inr (some 79)), .inr (.inr (some 80)), .inr (.inr (some 81)), .inl (.negSucc 0, .ofNat 6), .inr (.inr (some 82)), .inr (.inr (some 83)), .inr (.inr (some 84)), .inr (.inr (some 85)), .inr (.inr (some 86)), .inl am_top, .inr (.inr (some 87))]))))])), (some (.inl (.ofNat 0, .ofNat 24)), (80, [(62, .inr (.inr (.inr (7, [.inr (.inr (some 71)), .inr (.inr (some 72)), .inl (.ofNat 2, .ofNat 5), .inl (.ofNat 2, .ofNat 5), .inl (.ofNat 0, .ofNat 5), .inr (.inr (some 73)), .inl (.ofNat 2, .ofNat 5), .inl (.ofNat 2, .ofNat 5), .inl (.ofNat 0, .ofNat 5), .inl am_top, .inl am_top, .inl am_top, .inr (.inr (some 74)), .inl (.ofNat 0, .ofNat 160), .inl (.ofNat (s + 1), .ofNat 160), .inl (.ofNat 0, .ofNat 160), .inl (.ofNat 1, .ofNat 3), .inl am_top, .inl (.ofNat 0, .ofNat 0), .inl am_top, .inr (.inr (some 75)), .inr (.inr (some 76)), .inr (.inr (some 77)), .inr (.inr (some 78)), .inr (.inr (some 79)), .inr (.inr (some 80)), .inr (.inr (some 81)), .inl (.negSucc 0, .ofNat 6), .inr (.inr (some 82)), .inr (.inr (some 83)), .inr (.inr (some 84)), .inr (.inr (some 85)), .inr (.inr (some 86)), .inl am_top, .inr (.inr (some 87))]))))]))]
noncomputable def vk_F_readFree (s : Nat) : List vm_U := [((qj_898 (s + 0)), false, [(7, 62, 6), (7, 62, 7)]), (q_899, false, []), (q_846, false, [(7, 62, 14)]), (q_875, false, [(7, 62, 14), (7, 62, 17)])]
noncomputable def vf_F_readFree (s : Nat) : List ((Nat → am_I) → vm_A) := [fun v => (0, [(0, .inr (.inr (some 70)))], [], (80, [(62, .inr (.inr (.inr (7, [.inr (.inr (some 71)), .inr (.inr (some 72)), .inl (.ofNat 2, .ofNat 5), .inl (.ofNat 2, .ofNat 5), .inl (.ofNat 0, .ofNat 5), .inr (.inr (some 73)), .inl (.ofNat 2, .ofNat 5), .inl (.ofNat 2, .ofNat 5), .inl (.ofNat 0, .ofNat 5), .inl am_top, .inl am_top, .inl am_top, .inr (.inr (some 74)), .inl (.ofNat 0, .ofNat 160), .inl (.ofNat (s + 0), .ofNat 160), .inl (.ofNat 0, .ofNat 160), .inl (.ofNat 0, .ofNat 3), .inl am_top, .inl (.ofNat 0, .ofNat 0), .inl am_top, .inr (.inr (some 75)), .inr (.inr (some 76)), .inr (.inr (some 77)), .inr (.inr (some 78)), .inr (.inr (some 79)), .inr (.inr (some 80)), .inr (.inr (some 81)), .inl (.negSucc 0, .ofNat 6), .inr (.inr (some 82)), .inr (.inr (some 83)), .inr (.inr (some 84)), .inr (.inr (some 85)), .inr (.inr (some 86)), .inl am_top, .inr (.inr (some 87))]))))])), fun v => (37, [(0, .inr (.inr (some 70))), (1, .inl (.ofNat 0, .ofNat 24)), (2, .inl (.ofNat 0, .ofNat 1)), (3, .inl (v 0))], [], (80, [(62, .inr (.inr (.inr (7, [.inr (.inr (some 71)), .inr (.inr (some 72)), .inl (.ofNat 2, .ofNat 5), .inl (.ofNat 2, .ofNat 5), .inl (.ofNat 0, .ofNat 5), .inr (.inr (some 73)), .inl (.ofNat 2, .ofNat 5), .inl (.ofNat 2, .ofNat 5), .inl (.ofNat 0, .ofNat 5), .inl am_top, .inl am_top, .inl am_top, .inr (.inr (some 74)), .inl (.ofNat 0, .ofNat 160), .inl (.ofNat (s + 0), .ofNat 160), .inl (.ofNat 0, .ofNat 160), .inl (.ofNat 0, .ofNat 3), .inl am_top, .inl (.ofNat 0, .ofNat 0), .inl am_top, .inr (.inr (some 75)), .inr (.inr (some 76)), .inr (.inr (some 77)), .inr (.inr (some 78)), .inr (.inr (some 79)), .inr (.inr (some 80)), .inr (.inr (some 81)), .inl (.negSucc 0, .ofNat 6), .inr (.inr (some 82)), .inr (.inr (some 83)), .inr (.inr (some 84)), .inr (.inr (some 85)), .inr (.inr (some 86)), .inl am_top, .inr (.inr (some 87))]))))])), fun v => (73, [(0, .inr (.inr (some 70))), (1, .inl (.ofNat 0, .ofNat 24)), (2, .inl (.ofNat 0, .ofNat 1)), (3, .inl am_top)], [], (80, [(62, .inr (.inr (.inr (7, [.inr (.inr (some 71)), .inr (.inr (some 72)), .inl (.ofNat 2, .ofNat 5), .inl (.ofNat 2, .ofNat 5), .inl (.ofNat 0, .ofNat 5), .inr (.inr (some 73)), .inl (.ofNat 2, .ofNat 5), .inl (.ofNat 2, .ofNat 5), .inl (.ofNat 0, .ofNat 5), .inl am_top, .inl am_top, .inl am_top, .inr (.inr (some 74)), .inl (.ofNat 0, .ofNat 160), .inl (.ofNat (s + 0), .ofNat 160), .inl (.ofNat 0, .ofNat 160), .inl (.ofNat 0, .ofNat 3), .inl am_top, .inl (.ofNat 0, .ofNat 0), .inl am_top, .inr (.inr (some 75)), .inr (.inr (some 76)), .inr (.inr (some 77)), .inr (.inr (some 78)), .inr (.inr (some 79)), .inr (.inr (some 80)), .inr (.inr (some 81)), .inl (.negSucc 0, .ofNat 6), .inr (.inr (some 82)), .inr (.inr (some 83)), .inr (.inr (some 84)), .inr (.inr (some 85)), .inr (.inr (some 86)), .inl am_top, .inr (.inr (some 87))]))))])), fun v => (79, [(0, .inr (.inr (some 70))), (1, .inl (.ofNat 0, .ofNat 24)), (2, .inl am_top), (3, .inl am_top)], [], (80, [(62, .inr (.inr (.inr (7, [.inr (.inr (some 71)), .inr (.inr (some 72)), .inl (.ofNat 2, .ofNat 5), .inl (.ofNat 2, .ofNat 5), .inl (.ofNat 0, .ofNat 5), .inr (.inr (some 73)), .inl (v 0), .inl (v 1), .inl (.ofNat 0, .ofNat 5), .inl am_top, .inl am_top, .inl am_top, .inr (.inr (some 74)), .inl (.ofNat 0, .ofNat 160), .inl (.ofNat (s + 0), .ofNat 160), .inl (.ofNat 0, .ofNat 160), .inl (.ofNat 0, .ofNat 3), .inl am_top, .inl (v 2), .inl am_top, .inr (.inr (some 75)), .inr (.inr (some 76)), .inr (.inr (some 77)), .inr (.inr (some 78)), .inr (.inr (some 79)), .inr (.inr (some 80)), .inr (.inr (some 81)), .inl (.negSucc 0, .ofNat 6), .inr (.inr (some 82)), .inr (.inr (some 83)), .inr (.inr (some 84)), .inr (.inr (some 85)), .inr (.inr (some 86)), .inl am_top, .inr (.inr (some 87))]))))])), fun v => (106, [(0, .inr (.inr (some 70))), (1, .inl (.ofNat 0, .ofNat 24)), (2, .inl am_top), (3, .inl am_top)], [], (80, [(62, .inr (.inr (.inr (7, [.inr (.inr (some 71)), .inr (.inr (some 72)), .inl (.ofNat 2, .ofNat 5), .inl (.ofNat 2, .ofNat 5), .inl (.ofNat 0, .ofNat 5), .inr (.inr (some 73)), .inl (v 0), .inl (v 1), .inl (.ofNat 0, .ofNat 5), .inl am_top, .inl am_top, .inl am_top, .inr (.inr (some 74)), .inl (.ofNat 0, .ofNat 160), .inl (.ofNat (s + 0), .ofNat 160), .inl (.ofNat 0, .ofNat 160), .inl (.ofNat 0, .ofNat 3), .inl am_top, .inl (v 2), .inl am_top, .inr (.inr (some 75)), .inr (.inr (some 76)), .inr (.inr (some 77)), .inr (.inr (some 78)), .inr (.inr (some 79)), .inr (.inr (some 80)), .inr (.inr (some 81)), .inl (.negSucc 0, .ofNat 6), .inr (.inr (some 82)), .inr (.inr (some 83)), .inr (.inr (some 84)), .inr (.inr (some 85)), .inr (.inr (some 86)), .inl am_top, .inr (.inr (some 87))]))))])), fun v => (79, [(0, .inr (.inr (some 70))), (1, .inl (.ofNat 0, .ofNat 0))], [], (80, [(62, .inr (.inr (.inr (7, [.inr (.inr (some 71)), .inr (.inr (some 72)), .inl (.ofNat 2, .ofNat 5), .inl (.ofNat 2, .ofNat 5), .inl (.ofNat 0, .ofNat 5), .inr (.inr (some 73)), .inl (.ofNat 0, .ofNat 5), .inl (.ofNat 0, .ofNat 5), .inl (.ofNat 0, .ofNat 5), .inl am_top, .inl am_top, .inl am_top, .inr (.inr (some 74)), .inl (.ofNat 0, .ofNat 160), .inl (.ofNat (s + 0), .ofNat 160), .inl (.ofNat 0, .ofNat 160), .inl (.ofNat 0, .ofNat 3), .inl am_top, .inl (.ofNat 2, .ofNat 3), .inl am_top, .inr (.inr (some 75)), .inr (.inr (some 76)), .inr (.inr (some 77)), .inr (.inr (some 78)), .inr (.inr (some 79)), .inr (.inr (some 80)), .inr (.inr (some 81)), .inl (.negSucc 0, .ofNat 6), .inr (.inr (some 82)), .inr (.inr (some 83)), .inr (.inr (some 84)), .inr (.inr (some 85)), .inr (.inr (some 86)), .inl am_top, .inr (.inr (some 87))]))))])), fun v => (106, [(0, .inr (.inr (some 70))), (1, .inl (.ofNat 0, .ofNat 0))], [], (80, [(62, .inr (.inr (.inr (7, [.inr (.inr (some 71)), .inr (.inr (some 72)), .inl (.ofNat 2, .ofNat 5), .inl (.ofNat 2, .ofNat 5), .inl (.ofNat 0, .ofNat 5), .inr (.inr (some 73)), .inl (.ofNat 0, .ofNat 5), .inl (.ofNat 0, .ofNat 5), .inl (.ofNat 0, .ofNat 5), .inl am_top, .inl am_top, .inl am_top, .inr (.inr (some 74)), .inl (.ofNat 0, .ofNat 160), .inl (.ofNat (s + 0), .ofNat 160), .inl (.ofNat 0, .ofNat 160), .inl (.ofNat 0, .ofNat 3), .inl am_top, .inl (.ofNat 2, .ofNat 3), .inl am_top, .inr (.inr (some 75)), .inr (.inr (some 76)), .inr (.inr (some 77)), .inr (.inr (some 78)), .inr (.inr (some 79)), .inr (.inr (some 80)), .inr (.inr (some 81)), .inl (.negSucc 0, .ofNat 6), .inr (.inr (some 82)), .inr (.inr (some 83)), .inr (.inr (some 84)), .inr (.inr (some 85)), .inr (.inr (some 86)), .inl am_top, .inr (.inr (some 87))]))))]))]
noncomputable def vd_F_readFree_0_0 (s : Nat) : List (List Nat) := [[47244771328, 21474967553, 1116691628033, 2211908288513, 3307124948993, 4402341609473, 21474902017, 8590065666], [13245679206403, 51740934148, 1140249392644099, 4454099189764, 65541, 6]]
noncomputable def vd_F_readFree_0 (s : Nat) : List (List (List Nat)) := [vd_F_readFree_0_0 s]
noncomputable def vd_F_readFree (s : Nat) : List (List (List (List Nat))) := [vd_F_readFree_0 s]
noncomputable def vt_F_readFree (s : Nat) : List (List am_I) := [[(.ofNat 2, .ofNat 5), (.ofNat 0, .ofNat 5)]]
noncomputable def vc_F_readFree (s : Nat) : vm_C := (fun _ => vp_F_readFree s, fun pc => [], [37, 73, 79, 106], 14, vm_inst 8 12 (vt_F_readFree s) (vf_F_readFree s) (vd_F_readFree s))
noncomputable def ve_F_readFree (s : Nat) : List vm_E := [([.inr (.inr (some 70))], (80, [(62, .inr (.inr (.inr (7, [.inr (.inr (some 71)), .inr (.inr (some 72)), .inl (.ofNat 2, .ofNat 5), .inl (.ofNat 2, .ofNat 5), .inl (.ofNat 0, .ofNat 5), .inr (.inr (some 73)), .inl (.ofNat 2, .ofNat 5), .inl (.ofNat 2, .ofNat 5), .inl (.ofNat 0, .ofNat 5), .inl am_top, .inl am_top, .inl am_top, .inr (.inr (some 74)), .inl (.ofNat 0, .ofNat 160), .inl (.ofNat (s + 0), .ofNat 160), .inl (.ofNat 0, .ofNat 160), .inl (.ofNat 0, .ofNat 3), .inl am_top, .inl (.ofNat 0, .ofNat 0), .inl am_top, .inr (.inr (some 75)), .inr (.inr (some 76)), .inr (.inr (some 77)), .inr (.inr (some 78)), .inr (.inr (some 79)), .inr (.inr (some 80)), .inr (.inr (some 81)), .inl (.negSucc 0, .ofNat 6), .inr (.inr (some 82)), .inr (.inr (some 83)), .inr (.inr (some 84)), .inr (.inr (some 85)), .inr (.inr (some 86)), .inl am_top, .inr (.inr (some 87))]))))]), 0, [0])]
noncomputable def q_F_readFree (s : Nat) : vm_Q := (162, [.inr (.inr (some 70))], (80, [(62, .inr (.inr (.inr (7, [.inr (.inr (some 71)), .inr (.inr (some 72)), .inl (.ofNat 2, .ofNat 5), .inl (.ofNat 2, .ofNat 5), .inl (.ofNat 0, .ofNat 5), .inr (.inr (some 73)), .inl (.ofNat 2, .ofNat 5), .inl (.ofNat 2, .ofNat 5), .inl (.ofNat 0, .ofNat 5), .inl am_top, .inl am_top, .inl am_top, .inr (.inr (some 74)), .inl (.ofNat 0, .ofNat 160), .inl (.ofNat (s + 0), .ofNat 160), .inl (.ofNat 0, .ofNat 160), .inl (.ofNat 0, .ofNat 3), .inl am_top, .inl (.ofNat 0, .ofNat 0), .inl am_top, .inr (.inr (some 75)), .inr (.inr (some 76)), .inr (.inr (some 77)), .inr (.inr (some 78)), .inr (.inr (some 79)), .inr (.inr (some 80)), .inr (.inr (some 81)), .inl (.negSucc 0, .ofNat 6), .inr (.inr (some 82)), .inr (.inr (some 83)), .inr (.inr (some 84)), .inr (.inr (some 85)), .inr (.inr (some 86)), .inl am_top, .inr (.inr (some 87))]))))]), vp_F_readFree s)
theorem vx_F_readFree_0 : vm_rng (fun s => vm_chk bt_162 [] (vk_F_readFree s) 25 (vc_F_readFree s) 0 14 && (vm_ents 162 25 (vc_F_readFree s) (ve_F_readFree s) && vm_kok (vk_F_readFree s))) 1 1 = true := by decide +kernel
theorem vx_F_readFree_1 : vm_rng (fun s => vm_chk bt_162 [] (vk_F_readFree s) 25 (vc_F_readFree s) 0 14 && (vm_ents 162 25 (vc_F_readFree s) (ve_F_readFree s) && vm_kok (vk_F_readFree s))) 2 1 = true := by decide +kernel
theorem vx_F_readFree_2 : vm_rng (fun s => vm_chk bt_162 [] (vk_F_readFree s) 25 (vc_F_readFree s) 0 14 && (vm_ents 162 25 (vc_F_readFree s) (ve_F_readFree s) && vm_kok (vk_F_readFree s))) 3 1 = true := by decide +kernel
theorem vx_F_readFree_3 : vm_rng (fun s => vm_chk bt_162 [] (vk_F_readFree s) 25 (vc_F_readFree s) 0 14 && (vm_ents 162 25 (vc_F_readFree s) (ve_F_readFree s) && vm_kok (vk_F_readFree s))) 4 1 = true := by decide +kernel
theorem vx_F_readFree_4 : vm_rng (fun s => vm_chk bt_162 [] (vk_F_readFree s) 25 (vc_F_readFree s) 0 14 && (vm_ents 162 25 (vc_F_readFree s) (ve_F_readFree s) && vm_kok (vk_F_readFree s))) 5 1 = true := by decide +kernel
theorem vx_F_readFree_5 : vm_rng (fun s => vm_chk bt_162 [] (vk_F_readFree s) 25 (vc_F_readFree s) 0 14 && (vm_ents 162 25 (vc_F_readFree s) (ve_F_readFree s) && vm_kok (vk_F_readFree s))) 6 1 = true := by decide +kernel
theorem vx_F_readFree_6 : vm_rng (fun s => vm_chk bt_162 [] (vk_F_readFree s) 25 (vc_F_readFree s) 0 14 && (vm_ents 162 25 (vc_F_readFree s) (ve_F_readFree s) && vm_kok (vk_F_readFree s))) 7 1 = true := by decide +kernel
theorem vx_F_readFree_7 : vm_rng (fun s => vm_chk bt_162 [] (vk_F_readFree s) 25 (vc_F_readFree s) 0 14 && (vm_ents 162 25 (vc_F_readFree s) (ve_F_readFree s) && vm_kok (vk_F_readFree s))) 8 1 = true := by decide +kernel
theorem vx_F_readFree_8 : vm_rng (fun s => vm_chk bt_162 [] (vk_F_readFree s) 25 (vc_F_readFree s) 0 14 && (vm_ents 162 25 (vc_F_readFree s) (ve_F_readFree s) && vm_kok (vk_F_readFree s))) 9 1 = true := by decide +kernel
theorem vx_F_readFree_9 : vm_rng (fun s => vm_chk bt_162 [] (vk_F_readFree s) 25 (vc_F_readFree s) 0 14 && (vm_ents 162 25 (vc_F_readFree s) (ve_F_readFree s) && vm_kok (vk_F_readFree s))) 10 1 = true := by decide +kernel
theorem vx_F_readFree_10 : vm_rng (fun s => vm_chk bt_162 [] (vk_F_readFree s) 25 (vc_F_readFree s) 0 14 && (vm_ents 162 25 (vc_F_readFree s) (ve_F_readFree s) && vm_kok (vk_F_readFree s))) 11 1 = true := by decide +kernel
theorem vx_F_readFree_11 : vm_rng (fun s => vm_chk bt_162 [] (vk_F_readFree s) 25 (vc_F_readFree s) 0 14 && (vm_ents 162 25 (vc_F_readFree s) (ve_F_readFree s) && vm_kok (vk_F_readFree s))) 12 1 = true := by decide +kernel
theorem vx_F_readFree_12 : vm_rng (fun s => vm_chk bt_162 [] (vk_F_readFree s) 25 (vc_F_readFree s) 0 14 && (vm_ents 162 25 (vc_F_readFree s) (ve_F_readFree s) && vm_kok (vk_F_readFree s))) 13 1 = true := by decide +kernel
theorem vx_F_readFree_13 : vm_rng (fun s => vm_chk bt_162 [] (vk_F_readFree s) 25 (vc_F_readFree s) 0 14 && (vm_ents 162 25 (vc_F_readFree s) (ve_F_readFree s) && vm_kok (vk_F_readFree s))) 14 1 = true := by decide +kernel
theorem vx_F_readFree_14 : vm_rng (fun s => vm_chk bt_162 [] (vk_F_readFree s) 25 (vc_F_readFree s) 0 14 && (vm_ents 162 25 (vc_F_readFree s) (ve_F_readFree s) && vm_kok (vk_F_readFree s))) 15 1 = true := by decide +kernel
theorem vx_F_readFree_15 : vm_rng (fun s => vm_chk bt_162 [] (vk_F_readFree s) 25 (vc_F_readFree s) 0 14 && (vm_ents 162 25 (vc_F_readFree s) (ve_F_readFree s) && vm_kok (vk_F_readFree s))) 16 1 = true := by decide +kernel
theorem vx_F_readFree_16 : vm_rng (fun s => vm_chk bt_162 [] (vk_F_readFree s) 25 (vc_F_readFree s) 0 14 && (vm_ents 162 25 (vc_F_readFree s) (ve_F_readFree s) && vm_kok (vk_F_readFree s))) 17 1 = true := by decide +kernel
theorem vx_F_readFree_17 : vm_rng (fun s => vm_chk bt_162 [] (vk_F_readFree s) 25 (vc_F_readFree s) 0 14 && (vm_ents 162 25 (vc_F_readFree s) (ve_F_readFree s) && vm_kok (vk_F_readFree s))) 18 1 = true := by decide +kernel
theorem vx_F_readFree_18 : vm_rng (fun s => vm_chk bt_162 [] (vk_F_readFree s) 25 (vc_F_readFree s) 0 14 && (vm_ents 162 25 (vc_F_readFree s) (ve_F_readFree s) && vm_kok (vk_F_readFree s))) 19 1 = true := by decide +kernel
theorem vx_F_readFree_19 : vm_rng (fun s => vm_chk bt_162 [] (vk_F_readFree s) 25 (vc_F_readFree s) 0 14 && (vm_ents 162 25 (vc_F_readFree s) (ve_F_readFree s) && vm_kok (vk_F_readFree s))) 20 1 = true := by decide +kernel
theorem vx_F_readFree_20 : vm_rng (fun s => vm_chk bt_162 [] (vk_F_readFree s) 25 (vc_F_readFree s) 0 14 && (vm_ents 162 25 (vc_F_readFree s) (ve_F_readFree s) && vm_kok (vk_F_readFree s))) 21 1 = true := by decide +kernel
theorem vx_F_readFree_21 : vm_rng (fun s => vm_chk bt_162 [] (vk_F_readFree s) 25 (vc_F_readFree s) 0 14 && (vm_ents 162 25 (vc_F_readFree s) (ve_F_readFree s) && vm_kok (vk_F_readFree s))) 22 1 = true := by decide +kernel
theorem vx_F_readFree_22 : vm_rng (fun s => vm_chk bt_162 [] (vk_F_readFree s) 25 (vc_F_readFree s) 0 14 && (vm_ents 162 25 (vc_F_readFree s) (ve_F_readFree s) && vm_kok (vk_F_readFree s))) 23 1 = true := by decide +kernel
theorem vx_F_readFree_23 : vm_rng (fun s => vm_chk bt_162 [] (vk_F_readFree s) 25 (vc_F_readFree s) 0 14 && (vm_ents 162 25 (vc_F_readFree s) (ve_F_readFree s) && vm_kok (vk_F_readFree s))) 24 1 = true := by decide +kernel
theorem vx_F_readFree_24 : vm_rng (fun s => vm_chk bt_162 [] (vk_F_readFree s) 25 (vc_F_readFree s) 0 14 && (vm_ents 162 25 (vc_F_readFree s) (ve_F_readFree s) && vm_kok (vk_F_readFree s))) 25 1 = true := by decide +kernel
theorem vx_F_readFree_25 : vm_rng (fun s => vm_chk bt_162 [] (vk_F_readFree s) 25 (vc_F_readFree s) 0 14 && (vm_ents 162 25 (vc_F_readFree s) (ve_F_readFree s) && vm_kok (vk_F_readFree s))) 26 1 = true := by decide +kernel
theorem vx_F_readFree_26 : vm_rng (fun s => vm_chk bt_162 [] (vk_F_readFree s) 25 (vc_F_readFree s) 0 14 && (vm_ents 162 25 (vc_F_readFree s) (ve_F_readFree s) && vm_kok (vk_F_readFree s))) 27 1 = true := by decide +kernel
theorem vx_F_readFree_27 : vm_rng (fun s => vm_chk bt_162 [] (vk_F_readFree s) 25 (vc_F_readFree s) 0 14 && (vm_ents 162 25 (vc_F_readFree s) (ve_F_readFree s) && vm_kok (vk_F_readFree s))) 28 1 = true := by decide +kernel
theorem vx_F_readFree_28 : vm_rng (fun s => vm_chk bt_162 [] (vk_F_readFree s) 25 (vc_F_readFree s) 0 14 && (vm_ents 162 25 (vc_F_readFree s) (ve_F_readFree s) && vm_kok (vk_F_readFree s))) 29 1 = true := by decide +kernel
theorem vx_F_readFree_29 : vm_rng (fun s => vm_chk bt_162 [] (vk_F_readFree s) 25 (vc_F_readFree s) 0 14 && (vm_ents 162 25 (vc_F_readFree s) (ve_F_readFree s) && vm_kok (vk_F_readFree s))) 30 1 = true := by decide +kernel
theorem vx_F_readFree_30 : vm_rng (fun s => vm_chk bt_162 [] (vk_F_readFree s) 25 (vc_F_readFree s) 0 14 && (vm_ents 162 25 (vc_F_readFree s) (ve_F_readFree s) && vm_kok (vk_F_readFree s))) 31 1 = true := by decide +kernel
theorem vx_F_readFree_31 : vm_rng (fun s => vm_chk bt_162 [] (vk_F_readFree s) 25 (vc_F_readFree s) 0 14 && (vm_ents 162 25 (vc_F_readFree s) (ve_F_readFree s) && vm_kok (vk_F_readFree s))) 32 1 = true := by decide +kernel
theorem vx_F_readFree_32 : vm_rng (fun s => vm_chk bt_162 [] (vk_F_readFree s) 25 (vc_F_readFree s) 0 14 && (vm_ents 162 25 (vc_F_readFree s) (ve_F_readFree s) && vm_kok (vk_F_readFree s))) 33 1 = true := by decide +kernel
theorem vx_F_readFree_33 : vm_rng (fun s => vm_chk bt_162 [] (vk_F_readFree s) 25 (vc_F_readFree s) 0 14 && (vm_ents 162 25 (vc_F_readFree s) (ve_F_readFree s) && vm_kok (vk_F_readFree s))) 34 1 = true := by decide +kernel
theorem vx_F_readFree_34 : vm_rng (fun s => vm_chk bt_162 [] (vk_F_readFree s) 25 (vc_F_readFree s) 0 14 && (vm_ents 162 25 (vc_F_readFree s) (ve_F_readFree s) && vm_kok (vk_F_readFree s))) 35 1 = true := by decide +kernel
theorem vx_F_readFree_35 : vm_rng (fun s => vm_chk bt_162 [] (vk_F_readFree s) 25 (vc_F_readFree s) 0 14 && (vm_ents 162 25 (vc_F_readFree s) (ve_F_readFree s) && vm_kok (vk_F_readFree s))) 36 1 = true := by decide +kernel
theorem vx_F_readFree_36 : vm_rng (fun s => vm_chk bt_162 [] (vk_F_readFree s) 25 (vc_F_readFree s) 0 14 && (vm_ents 162 25 (vc_F_readFree s) (ve_F_readFree s) && vm_kok (vk_F_readFree s))) 37 1 = true := by decide +kernel
theorem vx_F_readFree_37 : vm_rng (fun s => vm_chk bt_162 [] (vk_F_readFree s) 25 (vc_F_readFree s) 0 14 && (vm_ents 162 25 (vc_F_readFree s) (ve_F_readFree s) && vm_kok (vk_F_readFree s))) 38 1 = true := by decide +kernel
theorem vx_F_readFree_38 : vm_rng (fun s => vm_chk bt_162 [] (vk_F_readFree s) 25 (vc_F_readFree s) 0 14 && (vm_ents 162 25 (vc_F_readFree s) (ve_F_readFree s) && vm_kok (vk_F_readFree s))) 39 1 = true := by decide +kernel
theorem vx_F_readFree_39 : vm_rng (fun s => vm_chk bt_162 [] (vk_F_readFree s) 25 (vc_F_readFree s) 0 14 && (vm_ents 162 25 (vc_F_readFree s) (ve_F_readFree s) && vm_kok (vk_F_readFree s))) 40 1 = true := by decide +kernel
theorem vx_F_readFree_40 : vm_rng (fun s => vm_chk bt_162 [] (vk_F_readFree s) 25 (vc_F_readFree s) 0 14 && (vm_ents 162 25 (vc_F_readFree s) (ve_F_readFree s) && vm_kok (vk_F_readFree s))) 41 1 = true := by decide +kernel
theorem vx_F_readFree_41 : vm_rng (fun s => vm_chk bt_162 [] (vk_F_readFree s) 25 (vc_F_readFree s) 0 14 && (vm_ents 162 25 (vc_F_readFree s) (ve_F_readFree s) && vm_kok (vk_F_readFree s))) 42 1 = true := by decide +kernel
theorem vx_F_readFree_42 : vm_rng (fun s => vm_chk bt_162 [] (vk_F_readFree s) 25 (vc_F_readFree s) 0 14 && (vm_ents 162 25 (vc_F_readFree s) (ve_F_readFree s) && vm_kok (vk_F_readFree s))) 43 1 = true := by decide +kernel
theorem vx_F_readFree_43 : vm_rng (fun s => vm_chk bt_162 [] (vk_F_readFree s) 25 (vc_F_readFree s) 0 14 && (vm_ents 162 25 (vc_F_readFree s) (ve_F_readFree s) && vm_kok (vk_F_readFree s))) 44 1 = true := by decide +kernel
theorem vx_F_readFree_44 : vm_rng (fun s => vm_chk bt_162 [] (vk_F_readFree s) 25 (vc_F_readFree s) 0 14 && (vm_ents 162 25 (vc_F_readFree s) (ve_F_readFree s) && vm_kok (vk_F_readFree s))) 45 1 = true := by decide +kernel
theorem vx_F_readFree_45 : vm_rng (fun s => vm_chk bt_162 [] (vk_F_readFree s) 25 (vc_F_readFree s) 0 14 && (vm_ents 162 25 (vc_F_readFree s) (ve_F_readFree s) && vm_kok (vk_F_readFree s))) 46 1 = true := by decide +kernel
theorem vx_F_readFree_46 : vm_rng (fun s => vm_chk bt_162 [] (vk_F_readFree s) 25 (vc_F_readFree s) 0 14 && (vm_ents 162 25 (vc_F_readFree s) (ve_F_readFree s) && vm_kok (vk_F_readFree s))) 47 1 = true := by decide +kernel
theorem vx_F_readFree_47 : vm_rng (fun s => vm_chk bt_162 [] (vk_F_readFree s) 25 (vc_F_readFree s) 0 14 && (vm_ents 162 25 (vc_F_readFree s) (ve_F_readFree s) && vm_kok (vk_F_readFree s))) 48 1 = true := by decide +kernel
theorem vx_F_readFree_48 : vm_rng (fun s => vm_chk bt_162 [] (vk_F_readFree s) 25 (vc_F_readFree s) 0 14 && (vm_ents 162 25 (vc_F_readFree s) (ve_F_readFree s) && vm_kok (vk_F_readFree s))) 49 1 = true := by decide +kernel
theorem vx_F_readFree_49 : vm_rng (fun s => vm_chk bt_162 [] (vk_F_readFree s) 25 (vc_F_readFree s) 0 14 && (vm_ents 162 25 (vc_F_readFree s) (ve_F_readFree s) && vm_kok (vk_F_readFree s))) 50 1 = true := by decide +kernel
theorem vx_F_readFree_50 : vm_rng (fun s => vm_chk bt_162 [] (vk_F_readFree s) 25 (vc_F_readFree s) 0 14 && (vm_ents 162 25 (vc_F_readFree s) (ve_F_readFree s) && vm_kok (vk_F_readFree s))) 51 1 = true := by decide +kernel
theorem vx_F_readFree_51 : vm_rng (fun s => vm_chk bt_162 [] (vk_F_readFree s) 25 (vc_F_readFree s) 0 14 && (vm_ents 162 25 (vc_F_readFree s) (ve_F_readFree s) && vm_kok (vk_F_readFree s))) 52 1 = true := by decide +kernel
theorem vx_F_readFree_52 : vm_rng (fun s => vm_chk bt_162 [] (vk_F_readFree s) 25 (vc_F_readFree s) 0 14 && (vm_ents 162 25 (vc_F_readFree s) (ve_F_readFree s) && vm_kok (vk_F_readFree s))) 53 1 = true := by decide +kernel
theorem vx_F_readFree_53 : vm_rng (fun s => vm_chk bt_162 [] (vk_F_readFree s) 25 (vc_F_readFree s) 0 14 && (vm_ents 162 25 (vc_F_readFree s) (ve_F_readFree s) && vm_kok (vk_F_readFree s))) 54 1 = true := by decide +kernel
theorem vx_F_readFree_54 : vm_rng (fun s => vm_chk bt_162 [] (vk_F_readFree s) 25 (vc_F_readFree s) 0 14 && (vm_ents 162 25 (vc_F_readFree s) (ve_F_readFree s) && vm_kok (vk_F_readFree s))) 55 1 = true := by decide +kernel
theorem vx_F_readFree_55 : vm_rng (fun s => vm_chk bt_162 [] (vk_F_readFree s) 25 (vc_F_readFree s) 0 14 && (vm_ents 162 25 (vc_F_readFree s) (ve_F_readFree s) && vm_kok (vk_F_readFree s))) 56 1 = true := by decide +kernel
theorem vx_F_readFree_56 : vm_rng (fun s => vm_chk bt_162 [] (vk_F_readFree s) 25 (vc_F_readFree s) 0 14 && (vm_ents 162 25 (vc_F_readFree s) (ve_F_readFree s) && vm_kok (vk_F_readFree s))) 57 1 = true := by decide +kernel
theorem vx_F_readFree_57 : vm_rng (fun s => vm_chk bt_162 [] (vk_F_readFree s) 25 (vc_F_readFree s) 0 14 && (vm_ents 162 25 (vc_F_readFree s) (ve_F_readFree s) && vm_kok (vk_F_readFree s))) 58 1 = true := by decide +kernel
theorem vx_F_readFree_58 : vm_rng (fun s => vm_chk bt_162 [] (vk_F_readFree s) 25 (vc_F_readFree s) 0 14 && (vm_ents 162 25 (vc_F_readFree s) (ve_F_readFree s) && vm_kok (vk_F_readFree s))) 59 1 = true := by decide +kernel
theorem vx_F_readFree_59 : vm_rng (fun s => vm_chk bt_162 [] (vk_F_readFree s) 25 (vc_F_readFree s) 0 14 && (vm_ents 162 25 (vc_F_readFree s) (ve_F_readFree s) && vm_kok (vk_F_readFree s))) 60 1 = true := by decide +kernel
theorem vx_F_readFree_60 : vm_rng (fun s => vm_chk bt_162 [] (vk_F_readFree s) 25 (vc_F_readFree s) 0 14 && (vm_ents 162 25 (vc_F_readFree s) (ve_F_readFree s) && vm_kok (vk_F_readFree s))) 61 1 = true := by decide +kernel
theorem vx_F_readFree_61 : vm_rng (fun s => vm_chk bt_162 [] (vk_F_readFree s) 25 (vc_F_readFree s) 0 14 && (vm_ents 162 25 (vc_F_readFree s) (ve_F_readFree s) && vm_kok (vk_F_readFree s))) 62 1 = true := by decide +kernel
theorem vx_F_readFree_62 : vm_rng (fun s => vm_chk bt_162 [] (vk_F_readFree s) 25 (vc_F_readFree s) 0 14 && (vm_ents 162 25 (vc_F_readFree s) (ve_F_readFree s) && vm_kok (vk_F_readFree s))) 63 1 = true := by decide +kernel
theorem vx_F_readFree_63 : vm_rng (fun s => vm_chk bt_162 [] (vk_F_readFree s) 25 (vc_F_readFree s) 0 14 && (vm_ents 162 25 (vc_F_readFree s) (ve_F_readFree s) && vm_kok (vk_F_readFree s))) 64 1 = true := by decide +kernel
theorem vx_F_readFree_64 : vm_rng (fun s => vm_chk bt_162 [] (vk_F_readFree s) 25 (vc_F_readFree s) 0 14 && (vm_ents 162 25 (vc_F_readFree s) (ve_F_readFree s) && vm_kok (vk_F_readFree s))) 65 1 = true := by decide +kernel
theorem vx_F_readFree_65 : vm_rng (fun s => vm_chk bt_162 [] (vk_F_readFree s) 25 (vc_F_readFree s) 0 14 && (vm_ents 162 25 (vc_F_readFree s) (ve_F_readFree s) && vm_kok (vk_F_readFree s))) 66 1 = true := by decide +kernel
theorem vx_F_readFree_66 : vm_rng (fun s => vm_chk bt_162 [] (vk_F_readFree s) 25 (vc_F_readFree s) 0 14 && (vm_ents 162 25 (vc_F_readFree s) (ve_F_readFree s) && vm_kok (vk_F_readFree s))) 67 1 = true := by decide +kernel
theorem vx_F_readFree_67 : vm_rng (fun s => vm_chk bt_162 [] (vk_F_readFree s) 25 (vc_F_readFree s) 0 14 && (vm_ents 162 25 (vc_F_readFree s) (ve_F_readFree s) && vm_kok (vk_F_readFree s))) 68 1 = true := by decide +kernel
theorem vx_F_readFree_68 : vm_rng (fun s => vm_chk bt_162 [] (vk_F_readFree s) 25 (vc_F_readFree s) 0 14 && (vm_ents 162 25 (vc_F_readFree s) (ve_F_readFree s) && vm_kok (vk_F_readFree s))) 69 1 = true := by decide +kernel
theorem vx_F_readFree_69 : vm_rng (fun s => vm_chk bt_162 [] (vk_F_readFree s) 25 (vc_F_readFree s) 0 14 && (vm_ents 162 25 (vc_F_readFree s) (ve_F_readFree s) && vm_kok (vk_F_readFree s))) 70 1 = true := by decide +kernel
theorem vx_F_readFree_70 : vm_rng (fun s => vm_chk bt_162 [] (vk_F_readFree s) 25 (vc_F_readFree s) 0 14 && (vm_ents 162 25 (vc_F_readFree s) (ve_F_readFree s) && vm_kok (vk_F_readFree s))) 71 1 = true := by decide +kernel
theorem vx_F_readFree_71 : vm_rng (fun s => vm_chk bt_162 [] (vk_F_readFree s) 25 (vc_F_readFree s) 0 14 && (vm_ents 162 25 (vc_F_readFree s) (ve_F_readFree s) && vm_kok (vk_F_readFree s))) 72 1 = true := by decide +kernel
theorem vx_F_readFree_72 : vm_rng (fun s => vm_chk bt_162 [] (vk_F_readFree s) 25 (vc_F_readFree s) 0 14 && (vm_ents 162 25 (vc_F_readFree s) (ve_F_readFree s) && vm_kok (vk_F_readFree s))) 73 1 = true := by decide +kernel
theorem vx_F_readFree_73 : vm_rng (fun s => vm_chk bt_162 [] (vk_F_readFree s) 25 (vc_F_readFree s) 0 14 && (vm_ents 162 25 (vc_F_readFree s) (ve_F_readFree s) && vm_kok (vk_F_readFree s))) 74 1 = true := by decide +kernel
theorem vx_F_readFree_74 : vm_rng (fun s => vm_chk bt_162 [] (vk_F_readFree s) 25 (vc_F_readFree s) 0 14 && (vm_ents 162 25 (vc_F_readFree s) (ve_F_readFree s) && vm_kok (vk_F_readFree s))) 75 1 = true := by decide +kernel
theorem vx_F_readFree_75 : vm_rng (fun s => vm_chk bt_162 [] (vk_F_readFree s) 25 (vc_F_readFree s) 0 14 && (vm_ents 162 25 (vc_F_readFree s) (ve_F_readFree s) && vm_kok (vk_F_readFree s))) 76 1 = true := by decide +kernel
theorem vx_F_readFree_76 : vm_rng (fun s => vm_chk bt_162 [] (vk_F_readFree s) 25 (vc_F_readFree s) 0 14 && (vm_ents 162 25 (vc_F_readFree s) (ve_F_readFree s) && vm_kok (vk_F_readFree s))) 77 1 = true := by decide +kernel
theorem vx_F_readFree_77 : vm_rng (fun s => vm_chk bt_162 [] (vk_F_readFree s) 25 (vc_F_readFree s) 0 14 && (vm_ents 162 25 (vc_F_readFree s) (ve_F_readFree s) && vm_kok (vk_F_readFree s))) 78 1 = true := by decide +kernel
theorem vx_F_readFree_78 : vm_rng (fun s => vm_chk bt_162 [] (vk_F_readFree s) 25 (vc_F_readFree s) 0 14 && (vm_ents 162 25 (vc_F_readFree s) (ve_F_readFree s) && vm_kok (vk_F_readFree s))) 79 1 = true := by decide +kernel
theorem vx_F_readFree_79 : vm_rng (fun s => vm_chk bt_162 [] (vk_F_readFree s) 25 (vc_F_readFree s) 0 14 && (vm_ents 162 25 (vc_F_readFree s) (ve_F_readFree s) && vm_kok (vk_F_readFree s))) 80 1 = true := by decide +kernel
theorem vx_F_readFree_80 : vm_rng (fun s => vm_chk bt_162 [] (vk_F_readFree s) 25 (vc_F_readFree s) 0 14 && (vm_ents 162 25 (vc_F_readFree s) (ve_F_readFree s) && vm_kok (vk_F_readFree s))) 81 1 = true := by decide +kernel
theorem vx_F_readFree_81 : vm_rng (fun s => vm_chk bt_162 [] (vk_F_readFree s) 25 (vc_F_readFree s) 0 14 && (vm_ents 162 25 (vc_F_readFree s) (ve_F_readFree s) && vm_kok (vk_F_readFree s))) 82 1 = true := by decide +kernel
theorem vx_F_readFree_82 : vm_rng (fun s => vm_chk bt_162 [] (vk_F_readFree s) 25 (vc_F_readFree s) 0 14 && (vm_ents 162 25 (vc_F_readFree s) (ve_F_readFree s) && vm_kok (vk_F_readFree s))) 83 1 = true := by decide +kernel
theorem vx_F_readFree_83 : vm_rng (fun s => vm_chk bt_162 [] (vk_F_readFree s) 25 (vc_F_readFree s) 0 14 && (vm_ents 162 25 (vc_F_readFree s) (ve_F_readFree s) && vm_kok (vk_F_readFree s))) 84 1 = true := by decide +kernel
theorem vx_F_readFree_84 : vm_rng (fun s => vm_chk bt_162 [] (vk_F_readFree s) 25 (vc_F_readFree s) 0 14 && (vm_ents 162 25 (vc_F_readFree s) (ve_F_readFree s) && vm_kok (vk_F_readFree s))) 85 1 = true := by decide +kernel
theorem vx_F_readFree_85 : vm_rng (fun s => vm_chk bt_162 [] (vk_F_readFree s) 25 (vc_F_readFree s) 0 14 && (vm_ents 162 25 (vc_F_readFree s) (ve_F_readFree s) && vm_kok (vk_F_readFree s))) 86 1 = true := by decide +kernel
theorem vx_F_readFree_86 : vm_rng (fun s => vm_chk bt_162 [] (vk_F_readFree s) 25 (vc_F_readFree s) 0 14 && (vm_ents 162 25 (vc_F_readFree s) (ve_F_readFree s) && vm_kok (vk_F_readFree s))) 87 1 = true := by decide +kernel
theorem vx_F_readFree_87 : vm_rng (fun s => vm_chk bt_162 [] (vk_F_readFree s) 25 (vc_F_readFree s) 0 14 && (vm_ents 162 25 (vc_F_readFree s) (ve_F_readFree s) && vm_kok (vk_F_readFree s))) 88 1 = true := by decide +kernel
theorem vx_F_readFree_88 : vm_rng (fun s => vm_chk bt_162 [] (vk_F_readFree s) 25 (vc_F_readFree s) 0 14 && (vm_ents 162 25 (vc_F_readFree s) (ve_F_readFree s) && vm_kok (vk_F_readFree s))) 89 1 = true := by decide +kernel
theorem vx_F_readFree_89 : vm_rng (fun s => vm_chk bt_162 [] (vk_F_readFree s) 25 (vc_F_readFree s) 0 14 && (vm_ents 162 25 (vc_F_readFree s) (ve_F_readFree s) && vm_kok (vk_F_readFree s))) 90 1 = true := by decide +kernel
theorem vx_F_readFree_90 : vm_rng (fun s => vm_chk bt_162 [] (vk_F_readFree s) 25 (vc_F_readFree s) 0 14 && (vm_ents 162 25 (vc_F_readFree s) (ve_F_readFree s) && vm_kok (vk_F_readFree s))) 91 1 = true := by decide +kernel
theorem vx_F_readFree_91 : vm_rng (fun s => vm_chk bt_162 [] (vk_F_readFree s) 25 (vc_F_readFree s) 0 14 && (vm_ents 162 25 (vc_F_readFree s) (ve_F_readFree s) && vm_kok (vk_F_readFree s))) 92 1 = true := by decide +kernel
theorem vx_F_readFree_92 : vm_rng (fun s => vm_chk bt_162 [] (vk_F_readFree s) 25 (vc_F_readFree s) 0 14 && (vm_ents 162 25 (vc_F_readFree s) (ve_F_readFree s) && vm_kok (vk_F_readFree s))) 93 1 = true := by decide +kernel
theorem vx_F_readFree_93 : vm_rng (fun s => vm_chk bt_162 [] (vk_F_readFree s) 25 (vc_F_readFree s) 0 14 && (vm_ents 162 25 (vc_F_readFree s) (ve_F_readFree s) && vm_kok (vk_F_readFree s))) 94 1 = true := by decide +kernel
theorem vx_F_readFree_94 : vm_rng (fun s => vm_chk bt_162 [] (vk_F_readFree s) 25 (vc_F_readFree s) 0 14 && (vm_ents 162 25 (vc_F_readFree s) (ve_F_readFree s) && vm_kok (vk_F_readFree s))) 95 1 = true := by decide +kernel
theorem vx_F_readFree_95 : vm_rng (fun s => vm_chk bt_162 [] (vk_F_readFree s) 25 (vc_F_readFree s) 0 14 && (vm_ents 162 25 (vc_F_readFree s) (ve_F_readFree s) && vm_kok (vk_F_readFree s))) 96 1 = true := by decide +kernel
theorem vx_F_readFree_96 : vm_rng (fun s => vm_chk bt_162 [] (vk_F_readFree s) 25 (vc_F_readFree s) 0 14 && (vm_ents 162 25 (vc_F_readFree s) (ve_F_readFree s) && vm_kok (vk_F_readFree s))) 97 1 = true := by decide +kernel
theorem vx_F_readFree_97 : vm_rng (fun s => vm_chk bt_162 [] (vk_F_readFree s) 25 (vc_F_readFree s) 0 14 && (vm_ents 162 25 (vc_F_readFree s) (ve_F_readFree s) && vm_kok (vk_F_readFree s))) 98 1 = true := by decide +kernel
theorem vx_F_readFree_98 : vm_rng (fun s => vm_chk bt_162 [] (vk_F_readFree s) 25 (vc_F_readFree s) 0 14 && (vm_ents 162 25 (vc_F_readFree s) (ve_F_readFree s) && vm_kok (vk_F_readFree s))) 99 1 = true := by decide +kernel
theorem vx_F_readFree_99 : vm_rng (fun s => vm_chk bt_162 [] (vk_F_readFree s) 25 (vc_F_readFree s) 0 14 && (vm_ents 162 25 (vc_F_readFree s) (ve_F_readFree s) && vm_kok (vk_F_readFree s))) 100 1 = true := by decide +kernel
theorem vx_F_readFree_100 : vm_rng (fun s => vm_chk bt_162 [] (vk_F_readFree s) 25 (vc_F_readFree s) 0 14 && (vm_ents 162 25 (vc_F_readFree s) (ve_F_readFree s) && vm_kok (vk_F_readFree s))) 101 1 = true := by decide +kernel
theorem vx_F_readFree_101 : vm_rng (fun s => vm_chk bt_162 [] (vk_F_readFree s) 25 (vc_F_readFree s) 0 14 && (vm_ents 162 25 (vc_F_readFree s) (ve_F_readFree s) && vm_kok (vk_F_readFree s))) 102 1 = true := by decide +kernel
theorem vx_F_readFree_102 : vm_rng (fun s => vm_chk bt_162 [] (vk_F_readFree s) 25 (vc_F_readFree s) 0 14 && (vm_ents 162 25 (vc_F_readFree s) (ve_F_readFree s) && vm_kok (vk_F_readFree s))) 103 1 = true := by decide +kernel
theorem vx_F_readFree_103 : vm_rng (fun s => vm_chk bt_162 [] (vk_F_readFree s) 25 (vc_F_readFree s) 0 14 && (vm_ents 162 25 (vc_F_readFree s) (ve_F_readFree s) && vm_kok (vk_F_readFree s))) 104 1 = true := by decide +kernel
theorem vx_F_readFree_104 : vm_rng (fun s => vm_chk bt_162 [] (vk_F_readFree s) 25 (vc_F_readFree s) 0 14 && (vm_ents 162 25 (vc_F_readFree s) (ve_F_readFree s) && vm_kok (vk_F_readFree s))) 105 1 = true := by decide +kernel
theorem vx_F_readFree_105 : vm_rng (fun s => vm_chk bt_162 [] (vk_F_readFree s) 25 (vc_F_readFree s) 0 14 && (vm_ents 162 25 (vc_F_readFree s) (ve_F_readFree s) && vm_kok (vk_F_readFree s))) 106 1 = true := by decide +kernel
theorem vx_F_readFree_106 : vm_rng (fun s => vm_chk bt_162 [] (vk_F_readFree s) 25 (vc_F_readFree s) 0 14 && (vm_ents 162 25 (vc_F_readFree s) (ve_F_readFree s) && vm_kok (vk_F_readFree s))) 107 1 = true := by decide +kernel
theorem vx_F_readFree_107 : vm_rng (fun s => vm_chk bt_162 [] (vk_F_readFree s) 25 (vc_F_readFree s) 0 14 && (vm_ents 162 25 (vc_F_readFree s) (ve_F_readFree s) && vm_kok (vk_F_readFree s))) 108 1 = true := by decide +kernel
theorem vx_F_readFree_108 : vm_rng (fun s => vm_chk bt_162 [] (vk_F_readFree s) 25 (vc_F_readFree s) 0 14 && (vm_ents 162 25 (vc_F_readFree s) (ve_F_readFree s) && vm_kok (vk_F_readFree s))) 109 1 = true := by decide +kernel
theorem vx_F_readFree_109 : vm_rng (fun s => vm_chk bt_162 [] (vk_F_readFree s) 25 (vc_F_readFree s) 0 14 && (vm_ents 162 25 (vc_F_readFree s) (ve_F_readFree s) && vm_kok (vk_F_readFree s))) 110 1 = true := by decide +kernel
theorem vx_F_readFree_110 : vm_rng (fun s => vm_chk bt_162 [] (vk_F_readFree s) 25 (vc_F_readFree s) 0 14 && (vm_ents 162 25 (vc_F_readFree s) (ve_F_readFree s) && vm_kok (vk_F_readFree s))) 111 1 = true := by decide +kernel
theorem vx_F_readFree_111 : vm_rng (fun s => vm_chk bt_162 [] (vk_F_readFree s) 25 (vc_F_readFree s) 0 14 && (vm_ents 162 25 (vc_F_readFree s) (ve_F_readFree s) && vm_kok (vk_F_readFree s))) 112 1 = true := by decide +kernel
theorem vx_F_readFree_112 : vm_rng (fun s => vm_chk bt_162 [] (vk_F_readFree s) 25 (vc_F_readFree s) 0 14 && (vm_ents 162 25 (vc_F_readFree s) (ve_F_readFree s) && vm_kok (vk_F_readFree s))) 113 1 = true := by decide +kernel
theorem vx_F_readFree_113 : vm_rng (fun s => vm_chk bt_162 [] (vk_F_readFree s) 25 (vc_F_readFree s) 0 14 && (vm_ents 162 25 (vc_F_readFree s) (ve_F_readFree s) && vm_kok (vk_F_readFree s))) 114 1 = true := by decide +kernel
theorem vx_F_readFree_114 : vm_rng (fun s => vm_chk bt_162 [] (vk_F_readFree s) 25 (vc_F_readFree s) 0 14 && (vm_ents 162 25 (vc_F_readFree s) (ve_F_readFree s) && vm_kok (vk_F_readFree s))) 115 1 = true := by decide +kernel
theorem vx_F_readFree_115 : vm_rng (fun s => vm_chk bt_162 [] (vk_F_readFree s) 25 (vc_F_readFree s) 0 14 && (vm_ents 162 25 (vc_F_readFree s) (ve_F_readFree s) && vm_kok (vk_F_readFree s))) 116 1 = true := by decide +kernel
theorem vx_F_readFree_116 : vm_rng (fun s => vm_chk bt_162 [] (vk_F_readFree s) 25 (vc_F_readFree s) 0 14 && (vm_ents 162 25 (vc_F_readFree s) (ve_F_readFree s) && vm_kok (vk_F_readFree s))) 117 1 = true := by decide +kernel
theorem vx_F_readFree_117 : vm_rng (fun s => vm_chk bt_162 [] (vk_F_readFree s) 25 (vc_F_readFree s) 0 14 && (vm_ents 162 25 (vc_F_readFree s) (ve_F_readFree s) && vm_kok (vk_F_readFree s))) 118 1 = true := by decide +kernel
theorem vx_F_readFree_118 : vm_rng (fun s => vm_chk bt_162 [] (vk_F_readFree s) 25 (vc_F_readFree s) 0 14 && (vm_ents 162 25 (vc_F_readFree s) (ve_F_readFree s) && vm_kok (vk_F_readFree s))) 119 1 = true := by decide +kernel
theorem vx_F_readFree_119 : vm_rng (fun s => vm_chk bt_162 [] (vk_F_readFree s) 25 (vc_F_readFree s) 0 14 && (vm_ents 162 25 (vc_F_readFree s) (ve_F_readFree s) && vm_kok (vk_F_readFree s))) 120 1 = true := by decide +kernel
theorem vx_F_readFree_120 : vm_rng (fun s => vm_chk bt_162 [] (vk_F_readFree s) 25 (vc_F_readFree s) 0 14 && (vm_ents 162 25 (vc_F_readFree s) (ve_F_readFree s) && vm_kok (vk_F_readFree s))) 121 1 = true := by decide +kernel
theorem vx_F_readFree_121 : vm_rng (fun s => vm_chk bt_162 [] (vk_F_readFree s) 25 (vc_F_readFree s) 0 14 && (vm_ents 162 25 (vc_F_readFree s) (ve_F_readFree s) && vm_kok (vk_F_readFree s))) 122 1 = true := by decide +kernel
theorem vx_F_readFree_122 : vm_rng (fun s => vm_chk bt_162 [] (vk_F_readFree s) 25 (vc_F_readFree s) 0 14 && (vm_ents 162 25 (vc_F_readFree s) (ve_F_readFree s) && vm_kok (vk_F_readFree s))) 123 1 = true := by decide +kernel
theorem vx_F_readFree_123 : vm_rng (fun s => vm_chk bt_162 [] (vk_F_readFree s) 25 (vc_F_readFree s) 0 14 && (vm_ents 162 25 (vc_F_readFree s) (ve_F_readFree s) && vm_kok (vk_F_readFree s))) 124 1 = true := by decide +kernel
theorem vx_F_readFree_124 : vm_rng (fun s => vm_chk bt_162 [] (vk_F_readFree s) 25 (vc_F_readFree s) 0 14 && (vm_ents 162 25 (vc_F_readFree s) (ve_F_readFree s) && vm_kok (vk_F_readFree s))) 125 1 = true := by decide +kernel
theorem vx_F_readFree_125 : vm_rng (fun s => vm_chk bt_162 [] (vk_F_readFree s) 25 (vc_F_readFree s) 0 14 && (vm_ents 162 25 (vc_F_readFree s) (ve_F_readFree s) && vm_kok (vk_F_readFree s))) 126 1 = true := by decide +kernel
theorem vx_F_readFree_126 : vm_rng (fun s => vm_chk bt_162 [] (vk_F_readFree s) 25 (vc_F_readFree s) 0 14 && (vm_ents 162 25 (vc_F_readFree s) (ve_F_readFree s) && vm_kok (vk_F_readFree s))) 127 1 = true := by decide +kernel
theorem vx_F_readFree_127 : vm_rng (fun s => vm_chk bt_162 [] (vk_F_readFree s) 25 (vc_F_readFree s) 0 14 && (vm_ents 162 25 (vc_F_readFree s) (ve_F_readFree s) && vm_kok (vk_F_readFree s))) 128 1 = true := by decide +kernel
theorem vx_F_readFree_128 : vm_rng (fun s => vm_chk bt_162 [] (vk_F_readFree s) 25 (vc_F_readFree s) 0 14 && (vm_ents 162 25 (vc_F_readFree s) (ve_F_readFree s) && vm_kok (vk_F_readFree s))) 129 1 = true := by decide +kernel
theorem vx_F_readFree_129 : vm_rng (fun s => vm_chk bt_162 [] (vk_F_readFree s) 25 (vc_F_readFree s) 0 14 && (vm_ents 162 25 (vc_F_readFree s) (ve_F_readFree s) && vm_kok (vk_F_readFree s))) 130 1 = true := by decide +kernel
theorem vx_F_readFree_130 : vm_rng (fun s => vm_chk bt_162 [] (vk_F_readFree s) 25 (vc_F_readFree s) 0 14 && (vm_ents 162 25 (vc_F_readFree s) (ve_F_readFree s) && vm_kok (vk_F_readFree s))) 131 1 = true := by decide +kernel
theorem vx_F_readFree_131 : vm_rng (fun s => vm_chk bt_162 [] (vk_F_readFree s) 25 (vc_F_readFree s) 0 14 && (vm_ents 162 25 (vc_F_readFree s) (ve_F_readFree s) && vm_kok (vk_F_readFree s))) 132 1 = true := by decide +kernel
theorem vx_F_readFree_132 : vm_rng (fun s => vm_chk bt_162 [] (vk_F_readFree s) 25 (vc_F_readFree s) 0 14 && (vm_ents 162 25 (vc_F_readFree s) (ve_F_readFree s) && vm_kok (vk_F_readFree s))) 133 1 = true := by decide +kernel
theorem vx_F_readFree_133 : vm_rng (fun s => vm_chk bt_162 [] (vk_F_readFree s) 25 (vc_F_readFree s) 0 14 && (vm_ents 162 25 (vc_F_readFree s) (ve_F_readFree s) && vm_kok (vk_F_readFree s))) 134 1 = true := by decide +kernel
theorem vx_F_readFree_134 : vm_rng (fun s => vm_chk bt_162 [] (vk_F_readFree s) 25 (vc_F_readFree s) 0 14 && (vm_ents 162 25 (vc_F_readFree s) (ve_F_readFree s) && vm_kok (vk_F_readFree s))) 135 1 = true := by decide +kernel
theorem vx_F_readFree_135 : vm_rng (fun s => vm_chk bt_162 [] (vk_F_readFree s) 25 (vc_F_readFree s) 0 14 && (vm_ents 162 25 (vc_F_readFree s) (ve_F_readFree s) && vm_kok (vk_F_readFree s))) 136 1 = true := by decide +kernel
theorem vx_F_readFree_136 : vm_rng (fun s => vm_chk bt_162 [] (vk_F_readFree s) 25 (vc_F_readFree s) 0 14 && (vm_ents 162 25 (vc_F_readFree s) (ve_F_readFree s) && vm_kok (vk_F_readFree s))) 137 1 = true := by decide +kernel
theorem vx_F_readFree_137 : vm_rng (fun s => vm_chk bt_162 [] (vk_F_readFree s) 25 (vc_F_readFree s) 0 14 && (vm_ents 162 25 (vc_F_readFree s) (ve_F_readFree s) && vm_kok (vk_F_readFree s))) 138 1 = true := by decide +kernel
theorem vx_F_readFree_138 : vm_rng (fun s => vm_chk bt_162 [] (vk_F_readFree s) 25 (vc_F_readFree s) 0 14 && (vm_ents 162 25 (vc_F_readFree s) (ve_F_readFree s) && vm_kok (vk_F_readFree s))) 139 1 = true := by decide +kernel
theorem vx_F_readFree_139 : vm_rng (fun s => vm_chk bt_162 [] (vk_F_readFree s) 25 (vc_F_readFree s) 0 14 && (vm_ents 162 25 (vc_F_readFree s) (ve_F_readFree s) && vm_kok (vk_F_readFree s))) 140 1 = true := by decide +kernel
theorem vx_F_readFree_140 : vm_rng (fun s => vm_chk bt_162 [] (vk_F_readFree s) 25 (vc_F_readFree s) 0 14 && (vm_ents 162 25 (vc_F_readFree s) (ve_F_readFree s) && vm_kok (vk_F_readFree s))) 141 1 = true := by decide +kernel
theorem vx_F_readFree_141 : vm_rng (fun s => vm_chk bt_162 [] (vk_F_readFree s) 25 (vc_F_readFree s) 0 14 && (vm_ents 162 25 (vc_F_readFree s) (ve_F_readFree s) && vm_kok (vk_F_readFree s))) 142 1 = true := by decide +kernel
theorem vx_F_readFree_142 : vm_rng (fun s => vm_chk bt_162 [] (vk_F_readFree s) 25 (vc_F_readFree s) 0 14 && (vm_ents 162 25 (vc_F_readFree s) (ve_F_readFree s) && vm_kok (vk_F_readFree s))) 143 1 = true := by decide +kernel
theorem vx_F_readFree_143 : vm_rng (fun s => vm_chk bt_162 [] (vk_F_readFree s) 25 (vc_F_readFree s) 0 14 && (vm_ents 162 25 (vc_F_readFree s) (ve_F_readFree s) && vm_kok (vk_F_readFree s))) 144 1 = true := by decide +kernel
theorem vx_F_readFree_144 : vm_rng (fun s => vm_chk bt_162 [] (vk_F_readFree s) 25 (vc_F_readFree s) 0 14 && (vm_ents 162 25 (vc_F_readFree s) (ve_F_readFree s) && vm_kok (vk_F_readFree s))) 145 1 = true := by decide +kernel
theorem vx_F_readFree_145 : vm_rng (fun s => vm_chk bt_162 [] (vk_F_readFree s) 25 (vc_F_readFree s) 0 14 && (vm_ents 162 25 (vc_F_readFree s) (ve_F_readFree s) && vm_kok (vk_F_readFree s))) 146 1 = true := by decide +kernel
theorem vx_F_readFree_146 : vm_rng (fun s => vm_chk bt_162 [] (vk_F_readFree s) 25 (vc_F_readFree s) 0 14 && (vm_ents 162 25 (vc_F_readFree s) (ve_F_readFree s) && vm_kok (vk_F_readFree s))) 147 1 = true := by decide +kernel
theorem vx_F_readFree_147 : vm_rng (fun s => vm_chk bt_162 [] (vk_F_readFree s) 25 (vc_F_readFree s) 0 14 && (vm_ents 162 25 (vc_F_readFree s) (ve_F_readFree s) && vm_kok (vk_F_readFree s))) 148 1 = true := by decide +kernel
theorem vx_F_readFree_148 : vm_rng (fun s => vm_chk bt_162 [] (vk_F_readFree s) 25 (vc_F_readFree s) 0 14 && (vm_ents 162 25 (vc_F_readFree s) (ve_F_readFree s) && vm_kok (vk_F_readFree s))) 149 1 = true := by decide +kernel
theorem vx_F_readFree_149 : vm_rng (fun s => vm_chk bt_162 [] (vk_F_readFree s) 25 (vc_F_readFree s) 0 14 && (vm_ents 162 25 (vc_F_readFree s) (ve_F_readFree s) && vm_kok (vk_F_readFree s))) 150 1 = true := by decide +kernel
theorem vx_F_readFree_150 : vm_rng (fun s => vm_chk bt_162 [] (vk_F_readFree s) 25 (vc_F_readFree s) 0 14 && (vm_ents 162 25 (vc_F_readFree s) (ve_F_readFree s) && vm_kok (vk_F_readFree s))) 151 1 = true := by decide +kernel
theorem vx_F_readFree_151 : vm_rng (fun s => vm_chk bt_162 [] (vk_F_readFree s) 25 (vc_F_readFree s) 0 14 && (vm_ents 162 25 (vc_F_readFree s) (ve_F_readFree s) && vm_kok (vk_F_readFree s))) 152 1 = true := by decide +kernel
theorem vx_F_readFree_152 : vm_rng (fun s => vm_chk bt_162 [] (vk_F_readFree s) 25 (vc_F_readFree s) 0 14 && (vm_ents 162 25 (vc_F_readFree s) (ve_F_readFree s) && vm_kok (vk_F_readFree s))) 153 1 = true := by decide +kernel
theorem vx_F_readFree_153 : vm_rng (fun s => vm_chk bt_162 [] (vk_F_readFree s) 25 (vc_F_readFree s) 0 14 && (vm_ents 162 25 (vc_F_readFree s) (ve_F_readFree s) && vm_kok (vk_F_readFree s))) 154 1 = true := by decide +kernel
theorem vx_F_readFree_154 : vm_rng (fun s => vm_chk bt_162 [] (vk_F_readFree s) 25 (vc_F_readFree s) 0 14 && (vm_ents 162 25 (vc_F_readFree s) (ve_F_readFree s) && vm_kok (vk_F_readFree s))) 155 1 = true := by decide +kernel
theorem vx_F_readFree_155 : vm_rng (fun s => vm_chk bt_162 [] (vk_F_readFree s) 25 (vc_F_readFree s) 0 14 && (vm_ents 162 25 (vc_F_readFree s) (ve_F_readFree s) && vm_kok (vk_F_readFree s))) 156 1 = true := by decide +kernel
theorem vx_F_readFree_156 : vm_rng (fun s => vm_chk bt_162 [] (vk_F_readFree s) 25 (vc_F_readFree s) 0 14 && (vm_ents 162 25 (vc_F_readFree s) (ve_F_readFree s) && vm_kok (vk_F_readFree s))) 157 1 = true := by decide +kernel
theorem vx_F_readFree_157 : vm_rng (fun s => vm_chk bt_162 [] (vk_F_readFree s) 25 (vc_F_readFree s) 0 14 && (vm_ents 162 25 (vc_F_readFree s) (ve_F_readFree s) && vm_kok (vk_F_readFree s))) 158 1 = true := by decide +kernel
theorem vx_F_readFree_158 : vm_rng (fun s => vm_chk bt_162 [] (vk_F_readFree s) 25 (vc_F_readFree s) 0 14 && (vm_ents 162 25 (vc_F_readFree s) (ve_F_readFree s) && vm_kok (vk_F_readFree s))) 159 1 = true := by decide +kernel
set_option maxRecDepth 20000 in
theorem vz_F_readFree (s : Nat) (h1 : 1 ≤ s) (h2 : s < 160) : (vm_chk bt_162 [] (vk_F_readFree s) 25 (vc_F_readFree s) 0 14 && (vm_ents 162 25 (vc_F_readFree s) (ve_F_readFree s) && vm_kok (vk_F_readFree s))) = true := by
  by_cases g0 : s < 2
  · exact vm_rng_ok vx_F_readFree_0 s (by omega) (by omega)
  by_cases g1 : s < 3
  · exact vm_rng_ok vx_F_readFree_1 s (by omega) (by omega)
  by_cases g2 : s < 4
  · exact vm_rng_ok vx_F_readFree_2 s (by omega) (by omega)
  by_cases g3 : s < 5
  · exact vm_rng_ok vx_F_readFree_3 s (by omega) (by omega)
  by_cases g4 : s < 6
  · exact vm_rng_ok vx_F_readFree_4 s (by omega) (by omega)
  by_cases g5 : s < 7
  · exact vm_rng_ok vx_F_readFree_5 s (by omega) (by omega)
  by_cases g6 : s < 8
  · exact vm_rng_ok vx_F_readFree_6 s (by omega) (by omega)
  by_cases g7 : s < 9
  · exact vm_rng_ok vx_F_readFree_7 s (by omega) (by omega)
  by_cases g8 : s < 10
  · exact vm_rng_ok vx_F_readFree_8 s (by omega) (by omega)
  by_cases g9 : s < 11
  · exact vm_rng_ok vx_F_readFree_9 s (by omega) (by omega)
  by_cases g10 : s < 12
  · exact vm_rng_ok vx_F_readFree_10 s (by omega) (by omega)
  by_cases g11 : s < 13
  · exact vm_rng_ok vx_F_readFree_11 s (by omega) (by omega)
  by_cases g12 : s < 14
  · exact vm_rng_ok vx_F_readFree_12 s (by omega) (by omega)
  by_cases g13 : s < 15
  · exact vm_rng_ok vx_F_readFree_13 s (by omega) (by omega)
  by_cases g14 : s < 16
  · exact vm_rng_ok vx_F_readFree_14 s (by omega) (by omega)
  by_cases g15 : s < 17
  · exact vm_rng_ok vx_F_readFree_15 s (by omega) (by omega)
  by_cases g16 : s < 18
  · exact vm_rng_ok vx_F_readFree_16 s (by omega) (by omega)
  by_cases g17 : s < 19
  · exact vm_rng_ok vx_F_readFree_17 s (by omega) (by omega)
  by_cases g18 : s < 20
  · exact vm_rng_ok vx_F_readFree_18 s (by omega) (by omega)
  by_cases g19 : s < 21
  · exact vm_rng_ok vx_F_readFree_19 s (by omega) (by omega)
  by_cases g20 : s < 22
  · exact vm_rng_ok vx_F_readFree_20 s (by omega) (by omega)
  by_cases g21 : s < 23
  · exact vm_rng_ok vx_F_readFree_21 s (by omega) (by omega)
  by_cases g22 : s < 24
  · exact vm_rng_ok vx_F_readFree_22 s (by omega) (by omega)
  by_cases g23 : s < 25
  · exact vm_rng_ok vx_F_readFree_23 s (by omega) (by omega)
  by_cases g24 : s < 26
  · exact vm_rng_ok vx_F_readFree_24 s (by omega) (by omega)
  by_cases g25 : s < 27
  · exact vm_rng_ok vx_F_readFree_25 s (by omega) (by omega)
  by_cases g26 : s < 28
  · exact vm_rng_ok vx_F_readFree_26 s (by omega) (by omega)
  by_cases g27 : s < 29
  · exact vm_rng_ok vx_F_readFree_27 s (by omega) (by omega)
  by_cases g28 : s < 30
  · exact vm_rng_ok vx_F_readFree_28 s (by omega) (by omega)
  by_cases g29 : s < 31
  · exact vm_rng_ok vx_F_readFree_29 s (by omega) (by omega)
  by_cases g30 : s < 32
  · exact vm_rng_ok vx_F_readFree_30 s (by omega) (by omega)
  by_cases g31 : s < 33
  · exact vm_rng_ok vx_F_readFree_31 s (by omega) (by omega)
  by_cases g32 : s < 34
  · exact vm_rng_ok vx_F_readFree_32 s (by omega) (by omega)
  by_cases g33 : s < 35
  · exact vm_rng_ok vx_F_readFree_33 s (by omega) (by omega)
  by_cases g34 : s < 36
  · exact vm_rng_ok vx_F_readFree_34 s (by omega) (by omega)
  by_cases g35 : s < 37
  · exact vm_rng_ok vx_F_readFree_35 s (by omega) (by omega)
  by_cases g36 : s < 38
  · exact vm_rng_ok vx_F_readFree_36 s (by omega) (by omega)
  by_cases g37 : s < 39
  · exact vm_rng_ok vx_F_readFree_37 s (by omega) (by omega)
  by_cases g38 : s < 40
  · exact vm_rng_ok vx_F_readFree_38 s (by omega) (by omega)
  by_cases g39 : s < 41
  · exact vm_rng_ok vx_F_readFree_39 s (by omega) (by omega)
  by_cases g40 : s < 42
  · exact vm_rng_ok vx_F_readFree_40 s (by omega) (by omega)
  by_cases g41 : s < 43
  · exact vm_rng_ok vx_F_readFree_41 s (by omega) (by omega)
  by_cases g42 : s < 44
  · exact vm_rng_ok vx_F_readFree_42 s (by omega) (by omega)
  by_cases g43 : s < 45
  · exact vm_rng_ok vx_F_readFree_43 s (by omega) (by omega)
  by_cases g44 : s < 46
  · exact vm_rng_ok vx_F_readFree_44 s (by omega) (by omega)
  by_cases g45 : s < 47
  · exact vm_rng_ok vx_F_readFree_45 s (by omega) (by omega)
  by_cases g46 : s < 48
  · exact vm_rng_ok vx_F_readFree_46 s (by omega) (by omega)
  by_cases g47 : s < 49
  · exact vm_rng_ok vx_F_readFree_47 s (by omega) (by omega)
  by_cases g48 : s < 50
  · exact vm_rng_ok vx_F_readFree_48 s (by omega) (by omega)
  by_cases g49 : s < 51
  · exact vm_rng_ok vx_F_readFree_49 s (by omega) (by omega)
  by_cases g50 : s < 52
  · exact vm_rng_ok vx_F_readFree_50 s (by omega) (by omega)
  by_cases g51 : s < 53
  · exact vm_rng_ok vx_F_readFree_51 s (by omega) (by omega)
  by_cases g52 : s < 54
  · exact vm_rng_ok vx_F_readFree_52 s (by omega) (by omega)
  by_cases g53 : s < 55
  · exact vm_rng_ok vx_F_readFree_53 s (by omega) (by omega)
  by_cases g54 : s < 56
  · exact vm_rng_ok vx_F_readFree_54 s (by omega) (by omega)
  by_cases g55 : s < 57
  · exact vm_rng_ok vx_F_readFree_55 s (by omega) (by omega)
  by_cases g56 : s < 58
  · exact vm_rng_ok vx_F_readFree_56 s (by omega) (by omega)
  by_cases g57 : s < 59
  · exact vm_rng_ok vx_F_readFree_57 s (by omega) (by omega)
  by_cases g58 : s < 60
  · exact vm_rng_ok vx_F_readFree_58 s (by omega) (by omega)
  by_cases g59 : s < 61
  · exact vm_rng_ok vx_F_readFree_59 s (by omega) (by omega)
  by_cases g60 : s < 62
  · exact vm_rng_ok vx_F_readFree_60 s (by omega) (by omega)
  by_cases g61 : s < 63
  · exact vm_rng_ok vx_F_readFree_61 s (by omega) (by omega)
  by_cases g62 : s < 64
  · exact vm_rng_ok vx_F_readFree_62 s (by omega) (by omega)
  by_cases g63 : s < 65
  · exact vm_rng_ok vx_F_readFree_63 s (by omega) (by omega)
  by_cases g64 : s < 66
  · exact vm_rng_ok vx_F_readFree_64 s (by omega) (by omega)
  by_cases g65 : s < 67
  · exact vm_rng_ok vx_F_readFree_65 s (by omega) (by omega)
  by_cases g66 : s < 68
  · exact vm_rng_ok vx_F_readFree_66 s (by omega) (by omega)
  by_cases g67 : s < 69
  · exact vm_rng_ok vx_F_readFree_67 s (by omega) (by omega)
  by_cases g68 : s < 70
  · exact vm_rng_ok vx_F_readFree_68 s (by omega) (by omega)
  by_cases g69 : s < 71
  · exact vm_rng_ok vx_F_readFree_69 s (by omega) (by omega)
  by_cases g70 : s < 72
  · exact vm_rng_ok vx_F_readFree_70 s (by omega) (by omega)
  by_cases g71 : s < 73
  · exact vm_rng_ok vx_F_readFree_71 s (by omega) (by omega)
  by_cases g72 : s < 74
  · exact vm_rng_ok vx_F_readFree_72 s (by omega) (by omega)
  by_cases g73 : s < 75
  · exact vm_rng_ok vx_F_readFree_73 s (by omega) (by omega)
  by_cases g74 : s < 76
  · exact vm_rng_ok vx_F_readFree_74 s (by omega) (by omega)
  by_cases g75 : s < 77
  · exact vm_rng_ok vx_F_readFree_75 s (by omega) (by omega)
  by_cases g76 : s < 78
  · exact vm_rng_ok vx_F_readFree_76 s (by omega) (by omega)
  by_cases g77 : s < 79
  · exact vm_rng_ok vx_F_readFree_77 s (by omega) (by omega)
  by_cases g78 : s < 80
  · exact vm_rng_ok vx_F_readFree_78 s (by omega) (by omega)
  by_cases g79 : s < 81
  · exact vm_rng_ok vx_F_readFree_79 s (by omega) (by omega)
  by_cases g80 : s < 82
  · exact vm_rng_ok vx_F_readFree_80 s (by omega) (by omega)
  by_cases g81 : s < 83
  · exact vm_rng_ok vx_F_readFree_81 s (by omega) (by omega)
  by_cases g82 : s < 84
  · exact vm_rng_ok vx_F_readFree_82 s (by omega) (by omega)
  by_cases g83 : s < 85
  · exact vm_rng_ok vx_F_readFree_83 s (by omega) (by omega)
  by_cases g84 : s < 86
  · exact vm_rng_ok vx_F_readFree_84 s (by omega) (by omega)
  by_cases g85 : s < 87
  · exact vm_rng_ok vx_F_readFree_85 s (by omega) (by omega)
  by_cases g86 : s < 88
  · exact vm_rng_ok vx_F_readFree_86 s (by omega) (by omega)
  by_cases g87 : s < 89
  · exact vm_rng_ok vx_F_readFree_87 s (by omega) (by omega)
  by_cases g88 : s < 90
  · exact vm_rng_ok vx_F_readFree_88 s (by omega) (by omega)
  by_cases g89 : s < 91
  · exact vm_rng_ok vx_F_readFree_89 s (by omega) (by omega)
  by_cases g90 : s < 92
  · exact vm_rng_ok vx_F_readFree_90 s (by omega) (by omega)
  by_cases g91 : s < 93
  · exact vm_rng_ok vx_F_readFree_91 s (by omega) (by omega)
  by_cases g92 : s < 94
  · exact vm_rng_ok vx_F_readFree_92 s (by omega) (by omega)
  by_cases g93 : s < 95
  · exact vm_rng_ok vx_F_readFree_93 s (by omega) (by omega)
  by_cases g94 : s < 96
  · exact vm_rng_ok vx_F_readFree_94 s (by omega) (by omega)
  by_cases g95 : s < 97
  · exact vm_rng_ok vx_F_readFree_95 s (by omega) (by omega)
  by_cases g96 : s < 98
  · exact vm_rng_ok vx_F_readFree_96 s (by omega) (by omega)
  by_cases g97 : s < 99
  · exact vm_rng_ok vx_F_readFree_97 s (by omega) (by omega)
  by_cases g98 : s < 100
  · exact vm_rng_ok vx_F_readFree_98 s (by omega) (by omega)
  by_cases g99 : s < 101
  · exact vm_rng_ok vx_F_readFree_99 s (by omega) (by omega)
  by_cases g100 : s < 102
  · exact vm_rng_ok vx_F_readFree_100 s (by omega) (by omega)
  by_cases g101 : s < 103
  · exact vm_rng_ok vx_F_readFree_101 s (by omega) (by omega)
  by_cases g102 : s < 104
  · exact vm_rng_ok vx_F_readFree_102 s (by omega) (by omega)
  by_cases g103 : s < 105
  · exact vm_rng_ok vx_F_readFree_103 s (by omega) (by omega)
  by_cases g104 : s < 106
  · exact vm_rng_ok vx_F_readFree_104 s (by omega) (by omega)
  by_cases g105 : s < 107
  · exact vm_rng_ok vx_F_readFree_105 s (by omega) (by omega)
  by_cases g106 : s < 108
  · exact vm_rng_ok vx_F_readFree_106 s (by omega) (by omega)
  by_cases g107 : s < 109
  · exact vm_rng_ok vx_F_readFree_107 s (by omega) (by omega)
  by_cases g108 : s < 110
  · exact vm_rng_ok vx_F_readFree_108 s (by omega) (by omega)
  by_cases g109 : s < 111
  · exact vm_rng_ok vx_F_readFree_109 s (by omega) (by omega)
  by_cases g110 : s < 112
  · exact vm_rng_ok vx_F_readFree_110 s (by omega) (by omega)
  by_cases g111 : s < 113
  · exact vm_rng_ok vx_F_readFree_111 s (by omega) (by omega)
  by_cases g112 : s < 114
  · exact vm_rng_ok vx_F_readFree_112 s (by omega) (by omega)
  by_cases g113 : s < 115
  · exact vm_rng_ok vx_F_readFree_113 s (by omega) (by omega)
  by_cases g114 : s < 116
  · exact vm_rng_ok vx_F_readFree_114 s (by omega) (by omega)
  by_cases g115 : s < 117
  · exact vm_rng_ok vx_F_readFree_115 s (by omega) (by omega)
  by_cases g116 : s < 118
  · exact vm_rng_ok vx_F_readFree_116 s (by omega) (by omega)
  by_cases g117 : s < 119
  · exact vm_rng_ok vx_F_readFree_117 s (by omega) (by omega)
  by_cases g118 : s < 120
  · exact vm_rng_ok vx_F_readFree_118 s (by omega) (by omega)
  by_cases g119 : s < 121
  · exact vm_rng_ok vx_F_readFree_119 s (by omega) (by omega)
  by_cases g120 : s < 122
  · exact vm_rng_ok vx_F_readFree_120 s (by omega) (by omega)
  by_cases g121 : s < 123
  · exact vm_rng_ok vx_F_readFree_121 s (by omega) (by omega)
  by_cases g122 : s < 124
  · exact vm_rng_ok vx_F_readFree_122 s (by omega) (by omega)
  by_cases g123 : s < 125
  · exact vm_rng_ok vx_F_readFree_123 s (by omega) (by omega)
  by_cases g124 : s < 126
  · exact vm_rng_ok vx_F_readFree_124 s (by omega) (by omega)
  by_cases g125 : s < 127
  · exact vm_rng_ok vx_F_readFree_125 s (by omega) (by omega)
  by_cases g126 : s < 128
  · exact vm_rng_ok vx_F_readFree_126 s (by omega) (by omega)
  by_cases g127 : s < 129
  · exact vm_rng_ok vx_F_readFree_127 s (by omega) (by omega)
  by_cases g128 : s < 130
  · exact vm_rng_ok vx_F_readFree_128 s (by omega) (by omega)
  by_cases g129 : s < 131
  · exact vm_rng_ok vx_F_readFree_129 s (by omega) (by omega)
  by_cases g130 : s < 132
  · exact vm_rng_ok vx_F_readFree_130 s (by omega) (by omega)
  by_cases g131 : s < 133
  · exact vm_rng_ok vx_F_readFree_131 s (by omega) (by omega)
  by_cases g132 : s < 134
  · exact vm_rng_ok vx_F_readFree_132 s (by omega) (by omega)
  by_cases g133 : s < 135
  · exact vm_rng_ok vx_F_readFree_133 s (by omega) (by omega)
  by_cases g134 : s < 136
  · exact vm_rng_ok vx_F_readFree_134 s (by omega) (by omega)
  by_cases g135 : s < 137
  · exact vm_rng_ok vx_F_readFree_135 s (by omega) (by omega)
  by_cases g136 : s < 138
  · exact vm_rng_ok vx_F_readFree_136 s (by omega) (by omega)
  by_cases g137 : s < 139
  · exact vm_rng_ok vx_F_readFree_137 s (by omega) (by omega)
  by_cases g138 : s < 140
  · exact vm_rng_ok vx_F_readFree_138 s (by omega) (by omega)
  by_cases g139 : s < 141
  · exact vm_rng_ok vx_F_readFree_139 s (by omega) (by omega)
  by_cases g140 : s < 142
  · exact vm_rng_ok vx_F_readFree_140 s (by omega) (by omega)
  by_cases g141 : s < 143
  · exact vm_rng_ok vx_F_readFree_141 s (by omega) (by omega)
  by_cases g142 : s < 144
  · exact vm_rng_ok vx_F_readFree_142 s (by omega) (by omega)
  by_cases g143 : s < 145
  · exact vm_rng_ok vx_F_readFree_143 s (by omega) (by omega)
  by_cases g144 : s < 146
  · exact vm_rng_ok vx_F_readFree_144 s (by omega) (by omega)
  by_cases g145 : s < 147
  · exact vm_rng_ok vx_F_readFree_145 s (by omega) (by omega)
  by_cases g146 : s < 148
  · exact vm_rng_ok vx_F_readFree_146 s (by omega) (by omega)
  by_cases g147 : s < 149
  · exact vm_rng_ok vx_F_readFree_147 s (by omega) (by omega)
  by_cases g148 : s < 150
  · exact vm_rng_ok vx_F_readFree_148 s (by omega) (by omega)
  by_cases g149 : s < 151
  · exact vm_rng_ok vx_F_readFree_149 s (by omega) (by omega)
  by_cases g150 : s < 152
  · exact vm_rng_ok vx_F_readFree_150 s (by omega) (by omega)
  by_cases g151 : s < 153
  · exact vm_rng_ok vx_F_readFree_151 s (by omega) (by omega)
  by_cases g152 : s < 154
  · exact vm_rng_ok vx_F_readFree_152 s (by omega) (by omega)
  by_cases g153 : s < 155
  · exact vm_rng_ok vx_F_readFree_153 s (by omega) (by omega)
  by_cases g154 : s < 156
  · exact vm_rng_ok vx_F_readFree_154 s (by omega) (by omega)
  by_cases g155 : s < 157
  · exact vm_rng_ok vx_F_readFree_155 s (by omega) (by omega)
  by_cases g156 : s < 158
  · exact vm_rng_ok vx_F_readFree_156 s (by omega) (by omega)
  by_cases g157 : s < 159
  · exact vm_rng_ok vx_F_readFree_157 s (by omega) (by omega)
  exact vm_rng_ok vx_F_readFree_158 s (by omega) (by omega)
theorem v_F_readFree (s : Nat) (h1 : 1 ≤ s) (h2 : s < 160) : vm_at 4 (q_F_readFree s) := by
  have h := vz_F_readFree s h1 h2
  rw [Bool.and_eq_true, Bool.and_eq_true] at h
  exact vm_ok (inl := []) (es := ve_F_readFree s) bq_162 (by decide) (vm_wts (L := 3) (vm_kc (vm_up (vj_898 (s + 0) (by omega)) rfl) (vm_kc (vm_up v_899 rfl) (vm_kc (vm_up v_846 rfl) (vm_kc (vm_up v_875 rfl) vm_kn)))) h.2.2) h.2.1 (fun i => vm_hc h.1 rfl (fun h => absurd h (Nat.not_lt_zero _))) _ List.mem_cons_self
noncomputable def va_c232 : am_C := .inr (.inr (.inr (7, [.inr (.inr (some 71)), .inr (.inr (some 72)), .inl (.ofNat 2, .ofNat 5), .inl (.ofNat 2, .ofNat 5), .inl (.ofNat 0, .ofNat 5), .inr (.inr (some 73)), .inl (.ofNat 2, .ofNat 5), .inl (.ofNat 2, .ofNat 5), .inl (.ofNat 0, .ofNat 4), .inl am_top, .inl am_top, .inl am_top, .inr (.inr (some 74)), .inl (.ofNat 0, .ofNat 160), .inl (.ofNat 160, .ofNat 160), .inl (.ofNat 0, .ofNat 160), .inl (.ofNat 0, .ofNat 3), .inl am_top, .inl (.ofNat 0, .ofNat 0), .inl am_top, .inr (.inr (some 75)), .inr (.inr (some 76)), .inr (.inr (some 77)), .inr (.inr (some 78)), .inr (.inr (some 79)), .inr (.inr (some 80)), .inr (.inr (some 81)), .inl (.negSucc 0, .ofNat 6), .inr (.inr (some 82)), .inr (.inr (some 83)), .inr (.inr (some 84)), .inr (.inr (some 85)), .inr (.inr (some 86)), .inl am_top, .inr (.inr (some 87))])))
noncomputable def va_h345 : am_H := (80, [(62, va_c232)])
noncomputable def vp_939 : List vm_R := [(none, va_h342), (none, va_h168)]
noncomputable def ve_939 : List vm_E := [([.inr (.inr (some 70)), .inl (.ofNat 0, .ofNat 1)], va_h345, 0, [0, 5, 10, 15, 20])]
noncomputable def q_939 : vm_Q := (165, [.inr (.inr (some 70)), .inl (.ofNat 0, .ofNat 1)], va_h345, vp_939)
noncomputable def vk_939 : List vm_U := [(q_922, false, [(7, 62, 8)]), (q_937, false, [(7, 62, 6), (7, 62, 7), (7, 62, 8)]), (q_938, false, [(7, 62, 6), (7, 62, 7), (7, 62, 8)])]
noncomputable def vf_939 : List ((Nat → am_I) → vm_A) := [fun v => (0, [(0, .inr (.inr (some 70))), (1, .inl (.ofNat 0, .ofNat 1))], [], (80, [(62, .inr (.inr (.inr (7, [.inr (.inr (some 71)), .inr (.inr (some 72)), .inl (.ofNat 2, .ofNat 5), .inl (.ofNat 2, .ofNat 5), .inl (.ofNat 0, .ofNat 5), .inr (.inr (some 73)), .inl (.ofNat 2, .ofNat 5), .inl (.ofNat 2, .ofNat 5), .inl (v 0), .inl am_top, .inl am_top, .inl am_top, .inr (.inr (some 74)), .inl (.ofNat 0, .ofNat 160), .inl (.ofNat 160, .ofNat 160), .inl (.ofNat 0, .ofNat 160), .inl (.ofNat 0, .ofNat 3), .inl am_top, .inl (.ofNat 0, .ofNat 0), .inl am_top, .inr (.inr (some 75)), .inr (.inr (some 76)), .inr (.inr (some 77)), .inr (.inr (some 78)), .inr (.inr (some 79)), .inr (.inr (some 80)), .inr (.inr (some 81)), .inl (.negSucc 0, .ofNat 6), .inr (.inr (some 82)), .inr (.inr (some 83)), .inr (.inr (some 84)), .inr (.inr (some 85)), .inr (.inr (some 86)), .inl am_top, .inr (.inr (some 87))]))))])), fun v => (5, [(0, .inr (.inr (some 70))), (1, .inl (.ofNat 0, .ofNat 1)), (2, .inl (.ofNat 0, .ofNat 24))], [], (80, [(62, .inr (.inr (.inr (7, [.inr (.inr (some 71)), .inr (.inr (some 72)), .inl (.ofNat 2, .ofNat 5), .inl (.ofNat 2, .ofNat 5), .inl (.ofNat 0, .ofNat 5), .inr (.inr (some 73)), .inl (v 0), .inl (v 1), .inl (v 2), .inl am_top, .inl am_top, .inl am_top, .inr (.inr (some 74)), .inl (.ofNat 0, .ofNat 160), .inl (v 3), .inl (.ofNat 0, .ofNat 160), .inl (v 4), .inl am_top, .inl (v 5), .inl am_top, .inr (.inr (some 75)), .inr (.inr (some 76)), .inr (.inr (some 77)), .inr (.inr (some 78)), .inr (.inr (some 79)), .inr (.inr (some 80)), .inr (.inr (some 81)), .inl (.negSucc 0, .ofNat 6), .inr (.inr (some 82)), .inr (.inr (some 83)), .inr (.inr (some 84)), .inr (.inr (some 85)), .inr (.inr (some 86)), .inl am_top, .inr (.inr (some 87))]))))])), fun v => (12, [(0, .inr (.inr (some 70))), (1, .inl (.ofNat 0, .ofNat 1)), (2, .inl (.ofNat 0, .ofNat 24)), (3, .inl (.ofNat 0, .ofNat 3))], [], (80, [(62, .inr (.inr (.inr (7, [.inr (.inr (some 71)), .inr (.inr (some 72)), .inl (.ofNat 2, .ofNat 5), .inl (.ofNat 2, .ofNat 5), .inl (.ofNat 0, .ofNat 5), .inr (.inr (some 73)), .inl (v 0), .inl (v 1), .inl (v 2), .inl am_top, .inl am_top, .inl am_top, .inr (.inr (some 74)), .inl (.ofNat 0, .ofNat 160), .inl (v 3), .inl (.ofNat 0, .ofNat 160), .inl (v 4), .inl am_top, .inl (v 5), .inl am_top, .inr (.inr (some 75)), .inr (.inr (some 76)), .inr (.inr (some 77)), .inr (.inr (some 78)), .inr (.inr (some 79)), .inr (.inr (some 80)), .inr (.inr (some 81)), .inl (.negSucc 0, .ofNat 6), .inr (.inr (some 82)), .inr (.inr (some 83)), .inr (.inr (some 84)), .inr (.inr (some 85)), .inr (.inr (some 86)), .inl am_top, .inr (.inr (some 87))]))))]))]
noncomputable def vd_939_0_0 : List (List Nat) := [[4402341609472, 777486597108483418554369, 2951813906964550909953, 45041105758060546, 3037057019955013222402, 3302829981696, 777486596827008441843713, 2951741849370512982017], [45040006246432770, 3037057018855501594626, 2203318353920, 777486596545533465133057, 2951669791776475054081, 45038906734804994, 3037057017755989966850, 1103806726144], [777486596264058488422401, 2951597734182437126145, 45037807223177218, 3037057016656478339074, 4295098368, 777486595982583511711745, 2951525676588399198209, 45036707711549442], [3037057015556966711298]]
noncomputable def vd_939_0 : List (List (List Nat)) := [vd_939_0_0]
noncomputable def vd_939 : List (List (List (List Nat))) := [vd_939_0]
noncomputable def vt_939 : List (List am_I) := [[(.ofNat 0, .ofNat 5), (.ofNat 0, .ofNat 160), (.ofNat 0, .ofNat 3), (.ofNat 1, .ofNat 6), (.ofNat 2, .ofNat 5)]]
noncomputable def vc_939 : vm_C := (fun _ => vp_939, fun pc => (match Nat.beq pc 0 with
  | true => [(fun _ _ => some (.inr (62, 8)), fun _ _ => some [.ofNat 1, .ofNat 2, .ofNat 3, .ofNat 4, .ofNat 5])]
  | false => []), [5, 12], 25, vm_inst 8 161 vt_939 vf_939 vd_939)
theorem vx_939_0 : vm_chk bt_165 [] vk_939 36 vc_939 0 14 = true := by decide +kernel
theorem vx_939_1 : vm_chk bt_165 [] vk_939 36 vc_939 14 11 = true := by decide +kernel
theorem vy_939 : vm_ents 165 36 vc_939 ve_939 = true := by decide +kernel
theorem vw_939 : ∀ q ∈ vk_939, vm_wt 4 q := vm_wts (vm_kc (vm_up v_922 rfl) (vm_kc (vm_up v_937 rfl) (vm_kc (vm_up v_938 rfl) vm_kn))) (by decide +kernel)
theorem v_939 : vm_at 5 q_939 := vm_ok (inl := []) (es := ve_939) bq_165 (by decide) vw_939 vy_939 (fun i => vm_hc vx_939_1 rfl (vm_hc vx_939_0 rfl (fun h => absurd h (Nat.not_lt_zero _)))) _ List.mem_cons_self
noncomputable def va_c233 : am_C := .inr (.inr (.inr (7, [.inr (.inr (some 71)), .inr (.inr (some 72)), .inl (.ofNat 2, .ofNat 5), .inl (.ofNat 2, .ofNat 5), .inl (.ofNat 0, .ofNat 5), .inr (.inr (some 73)), .inl (.ofNat 2, .ofNat 5), .inl (.ofNat 2, .ofNat 5), .inl (.ofNat 0, .ofNat 5), .inl am_top, .inl am_top, .inl am_top, .inr (.inr (some 74)), .inl (.ofNat 0, .ofNat 160), .inl (.ofNat 159, .ofNat 160), .inl (.ofNat 0, .ofNat 160), .inl (.ofNat 0, .ofNat 0), .inl am_top, .inl (.ofNat 0, .ofNat 0), .inl am_top, .inr (.inr (some 75)), .inr (.inr (some 76)), .inr (.inr (some 77)), .inr (.inr (some 78)), .inr (.inr (some 79)), .inr (.inr (some 80)), .inr (.inr (some 81)), .inl (.negSucc 0, .ofNat 6), .inr (.inr (some 82)), .inr (.inr (some 83)), .inr (.inr (some 84)), .inr (.inr (some 85)), .inr (.inr (some 86)), .inl am_top, .inr (.inr (some 87))])))
noncomputable def va_h346 : am_H := (80, [(62, va_c233)])
noncomputable def va_c234 : am_C := .inr (.inr (.inr (7, [.inr (.inr (some 71)), .inr (.inr (some 72)), .inl (.ofNat 2, .ofNat 5), .inl (.ofNat 2, .ofNat 5), .inl (.ofNat 0, .ofNat 5), .inr (.inr (some 73)), .inl (.ofNat 2, .ofNat 5), .inl (.ofNat 2, .ofNat 5), .inl (.ofNat 0, .ofNat 5), .inl am_top, .inl am_top, .inl am_top, .inr (.inr (some 74)), .inl (.ofNat 0, .ofNat 160), .inl (.ofNat 160, .ofNat 160), .inl (.ofNat 0, .ofNat 160), .inl (.ofNat 1, .ofNat 3), .inl am_top, .inl (.ofNat 0, .ofNat 0), .inl am_top, .inr (.inr (some 75)), .inr (.inr (some 76)), .inr (.inr (some 77)), .inr (.inr (some 78)), .inr (.inr (some 79)), .inr (.inr (some 80)), .inr (.inr (some 81)), .inl (.negSucc 0, .ofNat 6), .inr (.inr (some 82)), .inr (.inr (some 83)), .inr (.inr (some 84)), .inr (.inr (some 85)), .inr (.inr (some 86)), .inl am_top, .inr (.inr (some 87))])))
noncomputable def va_h347 : am_H := (80, [(62, va_c234)])
noncomputable def va_c235 : am_C := .inr (.inr (.inr (7, [.inr (.inr (some 71)), .inr (.inr (some 72)), .inl (.ofNat 2, .ofNat 5), .inl (.ofNat 2, .ofNat 5), .inl (.ofNat 0, .ofNat 5), .inr (.inr (some 73)), .inl (.ofNat 2, .ofNat 5), .inl (.ofNat 2, .ofNat 5), .inl (.ofNat 0, .ofNat 4), .inl am_top, .inl am_top, .inl am_top, .inr (.inr (some 74)), .inl (.ofNat 0, .ofNat 160), .inl (.ofNat 159, .ofNat 160), .inl (.ofNat 0, .ofNat 160), .inl (.ofNat 0, .ofNat 3), .inl am_top, .inl (.ofNat 0, .ofNat 0), .inl am_top, .inr (.inr (some 75)), .inr (.inr (some 76)), .inr (.inr (some 77)), .inr (.inr (some 78)), .inr (.inr (some 79)), .inr (.inr (some 80)), .inr (.inr (some 81)), .inl (.negSucc 0, .ofNat 6), .inr (.inr (some 82)), .inr (.inr (some 83)), .inr (.inr (some 84)), .inr (.inr (some 85)), .inr (.inr (some 86)), .inl am_top, .inr (.inr (some 87))])))
noncomputable def va_h348 : am_H := (80, [(62, va_c235)])
noncomputable def vp_955 : List vm_R := [(none, va_h346), (none, va_h347), (none, va_h168)]
noncomputable def ve_955 : List vm_E := [([.inr (.inr (some 70)), .inl (.ofNat 0, .ofNat 1)], va_h348, 0, [0, 8, 16, 24, 32])]
noncomputable def q_955 : vm_Q := (165, [.inr (.inr (some 70)), .inl (.ofNat 0, .ofNat 1)], va_h348, vp_955)
noncomputable def vk_955 : List vm_U := [(q_922, false, [(7, 62, 8)]), (q_937, false, [(7, 62, 6), (7, 62, 7), (7, 62, 8)]), ((q_F_rn_0_3 159), false, [(7, 62, 6), (7, 62, 7), (7, 62, 8)]), ((q_F_readFree 159), false, [(7, 62, 6), (7, 62, 7), (7, 62, 8)])]
noncomputable def vf_955 : List ((Nat → am_I) → vm_A) := [fun v => (0, [(0, .inr (.inr (some 70))), (1, .inl (.ofNat 0, .ofNat 1))], [], (80, [(62, .inr (.inr (.inr (7, [.inr (.inr (some 71)), .inr (.inr (some 72)), .inl (.ofNat 2, .ofNat 5), .inl (.ofNat 2, .ofNat 5), .inl (.ofNat 0, .ofNat 5), .inr (.inr (some 73)), .inl (.ofNat 2, .ofNat 5), .inl (.ofNat 2, .ofNat 5), .inl (v 0), .inl am_top, .inl am_top, .inl am_top, .inr (.inr (some 74)), .inl (.ofNat 0, .ofNat 160), .inl (.ofNat 159, .ofNat 160), .inl (.ofNat 0, .ofNat 160), .inl (.ofNat 0, .ofNat 3), .inl am_top, .inl (.ofNat 0, .ofNat 0), .inl am_top, .inr (.inr (some 75)), .inr (.inr (some 76)), .inr (.inr (some 77)), .inr (.inr (some 78)), .inr (.inr (some 79)), .inr (.inr (some 80)), .inr (.inr (some 81)), .inl (.negSucc 0, .ofNat 6), .inr (.inr (some 82)), .inr (.inr (some 83)), .inr (.inr (some 84)), .inr (.inr (some 85)), .inr (.inr (some 86)), .inl am_top, .inr (.inr (some 87))]))))])), fun v => (5, [(0, .inr (.inr (some 70))), (1, .inl (.ofNat 0, .ofNat 1)), (2, .inl (.ofNat 0, .ofNat 24))], [], (80, [(62, .inr (.inr (.inr (7, [.inr (.inr (some 71)), .inr (.inr (some 72)), .inl (.ofNat 2, .ofNat 5), .inl (.ofNat 2, .ofNat 5), .inl (.ofNat 0, .ofNat 5), .inr (.inr (some 73)), .inl (v 0), .inl (v 1), .inl (v 2), .inl am_top, .inl am_top, .inl am_top, .inr (.inr (some 74)), .inl (.ofNat 0, .ofNat 160), .inl (v 3), .inl (.ofNat 0, .ofNat 160), .inl (v 4), .inl am_top, .inl (v 5), .inl am_top, .inr (.inr (some 75)), .inr (.inr (some 76)), .inr (.inr (some 77)), .inr (.inr (some 78)), .inr (.inr (some 79)), .inr (.inr (some 80)), .inr (.inr (some 81)), .inl (.negSucc 0, .ofNat 6), .inr (.inr (some 82)), .inr (.inr (some 83)), .inr (.inr (some 84)), .inr (.inr (some 85)), .inr (.inr (some 86)), .inl am_top, .inr (.inr (some 87))]))))])), fun v => (12, [(0, .inr (.inr (some 70))), (1, .inl (.ofNat 0, .ofNat 1)), (2, .inl (.ofNat 0, .ofNat 24)), (3, .inl (.ofNat 0, .ofNat 3))], [], (80, [(62, .inr (.inr (.inr (7, [.inr (.inr (some 71)), .inr (.inr (some 72)), .inl (.ofNat 2, .ofNat 5), .inl (.ofNat 2, .ofNat 5), .inl (.ofNat 0, .ofNat 5), .inr (.inr (some 73)), .inl (v 0), .inl (v 1), .inl (v 2), .inl am_top, .inl am_top, .inl am_top, .inr (.inr (some 74)), .inl (.ofNat 0, .ofNat 160), .inl (v 3), .inl (.ofNat 0, .ofNat 160), .inl (v 4), .inl am_top, .inl (v 5), .inl am_top, .inr (.inr (some 75)), .inr (.inr (some 76)), .inr (.inr (some 77)), .inr (.inr (some 78)), .inr (.inr (some 79)), .inr (.inr (some 80)), .inr (.inr (some 81)), .inl (.negSucc 0, .ofNat 6), .inr (.inr (some 82)), .inr (.inr (some 83)), .inr (.inr (some 84)), .inr (.inr (some 85)), .inr (.inr (some 86)), .inl am_top, .inr (.inr (some 87))]))))]))]
noncomputable def vd_955_0_0 : List (List Nat) := [[1129202736889856, 777486597108483468886017, 786864650063338541285377, 45041105758060546, 788720925564116322680833, 47011430595035138, 12006601716054097922, 3037057019955013222402], [847727760179200, 777486596827008492175361, 786864578005744503357441, 45040006246432770, 788702478820042613129217, 47010331083407362, 12006600616542470146, 3037057018855501594626], [566252783468544, 777486596545533515464705, 786864505948150465429505, 45038906734804994, 788684032075968903577601, 47009231571779586, 12006599517030842370, 3037057017755989966850], [284777806757888, 777486596264058538754049, 786864433890556427501569, 45037807223177218, 788665585331895194025985, 47008132060151810, 12006598417519214594, 3037057016656478339074], [3302830047232, 777486595982583562043393, 786864361832962389573633, 45036707711549442, 788647138587821484474369, 47007032548524034, 12006597318007586818, 3037057015556966711298]]
noncomputable def vd_955_0 : List (List (List Nat)) := [vd_955_0_0]
noncomputable def vd_955 : List (List (List (List Nat))) := [vd_955_0]
noncomputable def vt_955 : List (List am_I) := [[(.ofNat 0, .ofNat 5), (.ofNat 0, .ofNat 160), (.ofNat 0, .ofNat 3), (.ofNat 1, .ofNat 6), (.ofNat 2, .ofNat 5), (.ofNat 1, .ofNat 3), (.ofNat 159, .ofNat 160)]]
noncomputable def vc_955 : vm_C := (fun _ => vp_955, fun pc => (match Nat.beq pc 0 with
  | true => [(fun _ _ => some (.inr (62, 8)), fun _ _ => some [.ofNat 1, .ofNat 2, .ofNat 3, .ofNat 4, .ofNat 5])]
  | false => []), [5, 12], 40, vm_inst 8 161 vt_955 vf_955 vd_955)
theorem vx_955_0 : vm_chk bt_165 [] vk_955 36 vc_955 0 12 = true := by decide +kernel
theorem vx_955_1 : vm_chk bt_165 [] vk_955 36 vc_955 12 11 = true := by decide +kernel
theorem vx_955_2 : vm_chk bt_165 [] vk_955 36 vc_955 23 13 = true := by decide +kernel
theorem vx_955_3 : vm_chk bt_165 [] vk_955 36 vc_955 36 4 = true := by decide +kernel
theorem vy_955 : vm_ents 165 36 vc_955 ve_955 = true := by decide +kernel
theorem vw_955 : ∀ q ∈ vk_955, vm_wt 4 q := vm_wts (vm_kc (vm_up v_922 rfl) (vm_kc (vm_up v_937 rfl) (vm_kc (vm_up (v_F_rn_0_3 159 (by decide) (by decide)) rfl) (vm_kc (vm_up (v_F_readFree 159 (by decide) (by decide)) rfl) vm_kn)))) (by decide +kernel)
theorem v_955 : vm_at 5 q_955 := vm_ok (inl := []) (es := ve_955) bq_165 (by decide) vw_955 vy_955 (fun i => vm_hc vx_955_3 rfl (vm_hc vx_955_2 rfl (vm_hc vx_955_1 rfl (vm_hc vx_955_0 rfl (fun h => absurd h (Nat.not_lt_zero _)))))) _ List.mem_cons_self
noncomputable def va_c236 : am_C := .inr (.inr (.inr (7, [.inr (.inr (some 71)), .inr (.inr (some 72)), .inl (.ofNat 2, .ofNat 5), .inl (.ofNat 2, .ofNat 5), .inl (.ofNat 0, .ofNat 5), .inr (.inr (some 73)), .inl (.ofNat 2, .ofNat 5), .inl (.ofNat 2, .ofNat 5), .inl (.ofNat 0, .ofNat 5), .inl am_top, .inl am_top, .inl am_top, .inr (.inr (some 74)), .inl (.ofNat 0, .ofNat 160), .inl (.ofNat 158, .ofNat 160), .inl (.ofNat 0, .ofNat 160), .inl (.ofNat 0, .ofNat 0), .inl am_top, .inl (.ofNat 0, .ofNat 0), .inl am_top, .inr (.inr (some 75)), .inr (.inr (some 76)), .inr (.inr (some 77)), .inr (.inr (some 78)), .inr (.inr (some 79)), .inr (.inr (some 80)), .inr (.inr (some 81)), .inl (.negSucc 0, .ofNat 6), .inr (.inr (some 82)), .inr (.inr (some 83)), .inr (.inr (some 84)), .inr (.inr (some 85)), .inr (.inr (some 86)), .inl am_top, .inr (.inr (some 87))])))
noncomputable def va_h349 : am_H := (80, [(62, va_c236)])
noncomputable def va_c237 : am_C := .inr (.inr (.inr (7, [.inr (.inr (some 71)), .inr (.inr (some 72)), .inl (.ofNat 2, .ofNat 5), .inl (.ofNat 2, .ofNat 5), .inl (.ofNat 0, .ofNat 5), .inr (.inr (some 73)), .inl (.ofNat 2, .ofNat 5), .inl (.ofNat 2, .ofNat 5), .inl (.ofNat 0, .ofNat 5), .inl am_top, .inl am_top, .inl am_top, .inr (.inr (some 74)), .inl (.ofNat 0, .ofNat 160), .inl (.ofNat 159, .ofNat 160), .inl (.ofNat 0, .ofNat 160), .inl (.ofNat 1, .ofNat 3), .inl am_top, .inl (.ofNat 0, .ofNat 0), .inl am_top, .inr (.inr (some 75)), .inr (.inr (some 76)), .inr (.inr (some 77)), .inr (.inr (some 78)), .inr (.inr (some 79)), .inr (.inr (some 80)), .inr (.inr (some 81)), .inl (.negSucc 0, .ofNat 6), .inr (.inr (some 82)), .inr (.inr (some 83)), .inr (.inr (some 84)), .inr (.inr (some 85)), .inr (.inr (some 86)), .inl am_top, .inr (.inr (some 87))])))
noncomputable def va_h350 : am_H := (80, [(62, va_c237)])
noncomputable def va_c238 : am_C := .inr (.inr (.inr (7, [.inr (.inr (some 71)), .inr (.inr (some 72)), .inl (.ofNat 2, .ofNat 5), .inl (.ofNat 2, .ofNat 5), .inl (.ofNat 0, .ofNat 5), .inr (.inr (some 73)), .inl (.ofNat 2, .ofNat 5), .inl (.ofNat 2, .ofNat 5), .inl (.ofNat 0, .ofNat 4), .inl am_top, .inl am_top, .inl am_top, .inr (.inr (some 74)), .inl (.ofNat 0, .ofNat 160), .inl (.ofNat 158, .ofNat 160), .inl (.ofNat 0, .ofNat 160), .inl (.ofNat 0, .ofNat 3), .inl am_top, .inl (.ofNat 0, .ofNat 0), .inl am_top, .inr (.inr (some 75)), .inr (.inr (some 76)), .inr (.inr (some 77)), .inr (.inr (some 78)), .inr (.inr (some 79)), .inr (.inr (some 80)), .inr (.inr (some 81)), .inl (.negSucc 0, .ofNat 6), .inr (.inr (some 82)), .inr (.inr (some 83)), .inr (.inr (some 84)), .inr (.inr (some 85)), .inr (.inr (some 86)), .inl am_top, .inr (.inr (some 87))])))
noncomputable def va_h351 : am_H := (80, [(62, va_c238)])
noncomputable def vp_971 : List vm_R := [(none, va_h349), (none, va_h350), (none, va_h168)]
noncomputable def ve_971 : List vm_E := [([.inr (.inr (some 70)), .inl (.ofNat 0, .ofNat 1)], va_h351, 0, [0, 9, 18, 27, 36])]
noncomputable def q_971 : vm_Q := (165, [.inr (.inr (some 70)), .inl (.ofNat 0, .ofNat 1)], va_h351, vp_971)
noncomputable def vk_971 : List vm_U := [(q_922, false, [(7, 62, 8)]), ((q_F_rn_0_3 159), false, [(7, 62, 6), (7, 62, 7), (7, 62, 8)]), ((q_F_rn_0_3 158), false, [(7, 62, 6), (7, 62, 7), (7, 62, 8)]), ((q_F_readFree 158), false, [(7, 62, 6), (7, 62, 7), (7, 62, 8)])]
noncomputable def vf_971 : List ((Nat → am_I) → vm_A) := [fun v => (0, [(0, .inr (.inr (some 70))), (1, .inl (.ofNat 0, .ofNat 1))], [], (80, [(62, .inr (.inr (.inr (7, [.inr (.inr (some 71)), .inr (.inr (some 72)), .inl (.ofNat 2, .ofNat 5), .inl (.ofNat 2, .ofNat 5), .inl (.ofNat 0, .ofNat 5), .inr (.inr (some 73)), .inl (.ofNat 2, .ofNat 5), .inl (.ofNat 2, .ofNat 5), .inl (v 0), .inl am_top, .inl am_top, .inl am_top, .inr (.inr (some 74)), .inl (.ofNat 0, .ofNat 160), .inl (.ofNat 158, .ofNat 160), .inl (.ofNat 0, .ofNat 160), .inl (.ofNat 0, .ofNat 3), .inl am_top, .inl (.ofNat 0, .ofNat 0), .inl am_top, .inr (.inr (some 75)), .inr (.inr (some 76)), .inr (.inr (some 77)), .inr (.inr (some 78)), .inr (.inr (some 79)), .inr (.inr (some 80)), .inr (.inr (some 81)), .inl (.negSucc 0, .ofNat 6), .inr (.inr (some 82)), .inr (.inr (some 83)), .inr (.inr (some 84)), .inr (.inr (some 85)), .inr (.inr (some 86)), .inl am_top, .inr (.inr (some 87))]))))])), fun v => (5, [(0, .inr (.inr (some 70))), (1, .inl (.ofNat 0, .ofNat 1)), (2, .inl (.ofNat 0, .ofNat 24))], [], (80, [(62, .inr (.inr (.inr (7, [.inr (.inr (some 71)), .inr (.inr (some 72)), .inl (.ofNat 2, .ofNat 5), .inl (.ofNat 2, .ofNat 5), .inl (.ofNat 0, .ofNat 5), .inr (.inr (some 73)), .inl (v 0), .inl (v 1), .inl (v 2), .inl am_top, .inl am_top, .inl am_top, .inr (.inr (some 74)), .inl (.ofNat 0, .ofNat 160), .inl (v 3), .inl (.ofNat 0, .ofNat 160), .inl (v 4), .inl am_top, .inl (v 5), .inl am_top, .inr (.inr (some 75)), .inr (.inr (some 76)), .inr (.inr (some 77)), .inr (.inr (some 78)), .inr (.inr (some 79)), .inr (.inr (some 80)), .inr (.inr (some 81)), .inl (.negSucc 0, .ofNat 6), .inr (.inr (some 82)), .inr (.inr (some 83)), .inr (.inr (some 84)), .inr (.inr (some 85)), .inr (.inr (some 86)), .inl am_top, .inr (.inr (some 87))]))))])), fun v => (12, [(0, .inr (.inr (some 70))), (1, .inl (.ofNat 0, .ofNat 1)), (2, .inl (.ofNat 0, .ofNat 24)), (3, .inl (.ofNat 0, .ofNat 3))], [], (80, [(62, .inr (.inr (.inr (7, [.inr (.inr (some 71)), .inr (.inr (some 72)), .inl (.ofNat 2, .ofNat 5), .inl (.ofNat 2, .ofNat 5), .inl (.ofNat 0, .ofNat 5), .inr (.inr (some 73)), .inl (v 0), .inl (v 1), .inl (v 2), .inl am_top, .inl am_top, .inl am_top, .inr (.inr (some 74)), .inl (.ofNat 0, .ofNat 160), .inl (v 3), .inl (.ofNat 0, .ofNat 160), .inl (v 4), .inl am_top, .inl (v 5), .inl am_top, .inr (.inr (some 75)), .inr (.inr (some 76)), .inr (.inr (some 77)), .inr (.inr (some 78)), .inr (.inr (some 79)), .inr (.inr (some 80)), .inr (.inr (some 81)), .inl (.negSucc 0, .ofNat 6), .inr (.inr (some 82)), .inr (.inr (some 83)), .inr (.inr (some 84)), .inr (.inr (some 85)), .inr (.inr (some 86)), .inl am_top, .inr (.inr (some 87))]))))]))]
noncomputable def vd_971_0_0 : List (List Nat) := [[1130302248517632, 777486597108483485663233, 202674610434727617388281857, 46729955618324482, 12078659310092025858, 793443292046985967894529, 47292905571745794, 12080348159952289794], [3037057019955013222402, 848827271806976, 777486596827008508952577, 202674591987983543678730241, 46728856106696706, 12078658210580398082, 793424845302912258342913, 47291806060118018], [12080347060440662018, 3037057018855501594626, 567352295096320, 777486596545533532241921, 202674573541239469969178625, 46727756595068930, 12078657111068770306, 793406398558838548791297], [47290706548490242, 12080345960929034242, 3037057017755989966850, 285877318385664, 777486596264058555531265, 202674555094495396259627009, 46726657083441154, 12078656011557142530], [793387951814764839239681, 47289607036862466, 12080344861417406466, 3037057016656478339074, 4402341675008, 777486595982583578820609, 202674536647751322550075393, 46725557571813378], [12078654912045514754, 793369505070691129688065, 47288507525234690, 12080343761905778690, 3037057015556966711298]]
noncomputable def vd_971_0 : List (List (List Nat)) := [vd_971_0_0]
noncomputable def vd_971 : List (List (List (List Nat))) := [vd_971_0]
noncomputable def vt_971 : List (List am_I) := [[(.ofNat 0, .ofNat 5), (.ofNat 0, .ofNat 160), (.ofNat 0, .ofNat 3), (.ofNat 1, .ofNat 6), (.ofNat 2, .ofNat 5), (.ofNat 159, .ofNat 160), (.ofNat 1, .ofNat 3), (.ofNat 158, .ofNat 160)]]
noncomputable def vc_971 : vm_C := (fun _ => vp_971, fun pc => (match Nat.beq pc 0 with
  | true => [(fun _ _ => some (.inr (62, 8)), fun _ _ => some [.ofNat 1, .ofNat 2, .ofNat 3, .ofNat 4, .ofNat 5])]
  | false => []), [5, 12], 45, vm_inst 8 161 vt_971 vf_971 vd_971)
theorem vx_971_0 : vm_chk bt_165 [] vk_971 36 vc_971 0 11 = true := by decide +kernel
theorem vx_971_1 : vm_chk bt_165 [] vk_971 36 vc_971 11 11 = true := by decide +kernel
theorem vx_971_2 : vm_chk bt_165 [] vk_971 36 vc_971 22 10 = true := by decide +kernel
theorem vx_971_3 : vm_chk bt_165 [] vk_971 36 vc_971 32 11 = true := by decide +kernel
theorem vx_971_4 : vm_chk bt_165 [] vk_971 36 vc_971 43 2 = true := by decide +kernel
theorem vy_971 : vm_ents 165 36 vc_971 ve_971 = true := by decide +kernel
theorem vw_971 : ∀ q ∈ vk_971, vm_wt 4 q := vm_wts (vm_kc (vm_up v_922 rfl) (vm_kc (vm_up (v_F_rn_0_3 159 (by decide) (by decide)) rfl) (vm_kc (vm_up (v_F_rn_0_3 158 (by decide) (by decide)) rfl) (vm_kc (vm_up (v_F_readFree 158 (by decide) (by decide)) rfl) vm_kn)))) (by decide +kernel)
theorem v_971 : vm_at 5 q_971 := vm_ok (inl := []) (es := ve_971) bq_165 (by decide) vw_971 vy_971 (fun i => vm_hc vx_971_4 rfl (vm_hc vx_971_3 rfl (vm_hc vx_971_2 rfl (vm_hc vx_971_1 rfl (vm_hc vx_971_0 rfl (fun h => absurd h (Nat.not_lt_zero _))))))) _ List.mem_cons_self
noncomputable def va_c239 : am_C := .inr (.inr (.inr (7, [.inr (.inr (some 71)), .inr (.inr (some 72)), .inl (.ofNat 2, .ofNat 5), .inl (.ofNat 2, .ofNat 5), .inl (.ofNat 0, .ofNat 5), .inr (.inr (some 73)), .inl (.ofNat 2, .ofNat 5), .inl (.ofNat 2, .ofNat 5), .inl (.ofNat 0, .ofNat 4), .inl am_top, .inl am_top, .inl am_top, .inr (.inr (some 74)), .inl (.ofNat 0, .ofNat 160), .inl (.ofNat 0, .ofNat 160), .inl (.ofNat 0, .ofNat 160), .inl (.ofNat 0, .ofNat 3), .inl am_top, .inl (.ofNat 0, .ofNat 0), .inl am_top, .inr (.inr (some 75)), .inr (.inr (some 76)), .inr (.inr (some 77)), .inr (.inr (some 78)), .inr (.inr (some 79)), .inr (.inr (some 80)), .inr (.inr (some 81)), .inl (.negSucc 0, .ofNat 6), .inr (.inr (some 82)), .inr (.inr (some 83)), .inr (.inr (some 84)), .inr (.inr (some 85)), .inr (.inr (some 86)), .inl am_top, .inr (.inr (some 87))])))
noncomputable def va_h352 : am_H := (80, [(62, va_c239)])
noncomputable def vp_3499 : List vm_R := [(none, va_h343), (none, va_h344), (none, va_h168)]
noncomputable def ve_3499 : List vm_E := [([.inr (.inr (some 70)), .inl (.ofNat 0, .ofNat 1)], va_h352, 0, [0, 9, 18, 27, 36])]
noncomputable def q_3499 : vm_Q := (165, [.inr (.inr (some 70)), .inl (.ofNat 0, .ofNat 1)], va_h352, vp_3499)
noncomputable def vk_3499 : List vm_U := [(q_922, false, [(7, 62, 8)]), ((q_F_rn_0_3 1), false, [(7, 62, 6), (7, 62, 7), (7, 62, 8)]), (q_3497, false, [(7, 62, 6), (7, 62, 7), (7, 62, 8)]), (q_3498, false, [(7, 62, 6), (7, 62, 7), (7, 62, 8)])]
noncomputable def vf_3499 : List ((Nat → am_I) → vm_A) := [fun v => (0, [(0, .inr (.inr (some 70))), (1, .inl (.ofNat 0, .ofNat 1))], [], (80, [(62, .inr (.inr (.inr (7, [.inr (.inr (some 71)), .inr (.inr (some 72)), .inl (.ofNat 2, .ofNat 5), .inl (.ofNat 2, .ofNat 5), .inl (.ofNat 0, .ofNat 5), .inr (.inr (some 73)), .inl (.ofNat 2, .ofNat 5), .inl (.ofNat 2, .ofNat 5), .inl (v 0), .inl am_top, .inl am_top, .inl am_top, .inr (.inr (some 74)), .inl (.ofNat 0, .ofNat 160), .inl (.ofNat 0, .ofNat 160), .inl (.ofNat 0, .ofNat 160), .inl (.ofNat 0, .ofNat 3), .inl am_top, .inl (.ofNat 0, .ofNat 0), .inl am_top, .inr (.inr (some 75)), .inr (.inr (some 76)), .inr (.inr (some 77)), .inr (.inr (some 78)), .inr (.inr (some 79)), .inr (.inr (some 80)), .inr (.inr (some 81)), .inl (.negSucc 0, .ofNat 6), .inr (.inr (some 82)), .inr (.inr (some 83)), .inr (.inr (some 84)), .inr (.inr (some 85)), .inr (.inr (some 86)), .inl am_top, .inr (.inr (some 87))]))))])), fun v => (5, [(0, .inr (.inr (some 70))), (1, .inl (.ofNat 0, .ofNat 1)), (2, .inl (.ofNat 0, .ofNat 24))], [], (80, [(62, .inr (.inr (.inr (7, [.inr (.inr (some 71)), .inr (.inr (some 72)), .inl (.ofNat 2, .ofNat 5), .inl (.ofNat 2, .ofNat 5), .inl (.ofNat 0, .ofNat 5), .inr (.inr (some 73)), .inl (v 0), .inl (v 1), .inl (v 2), .inl am_top, .inl am_top, .inl am_top, .inr (.inr (some 74)), .inl (.ofNat 0, .ofNat 160), .inl (v 3), .inl (.ofNat 0, .ofNat 160), .inl (v 4), .inl am_top, .inl (v 5), .inl am_top, .inr (.inr (some 75)), .inr (.inr (some 76)), .inr (.inr (some 77)), .inr (.inr (some 78)), .inr (.inr (some 79)), .inr (.inr (some 80)), .inr (.inr (some 81)), .inl (.negSucc 0, .ofNat 6), .inr (.inr (some 82)), .inr (.inr (some 83)), .inr (.inr (some 84)), .inr (.inr (some 85)), .inr (.inr (some 86)), .inl am_top, .inr (.inr (some 87))]))))])), fun v => (12, [(0, .inr (.inr (some 70))), (1, .inl (.ofNat 0, .ofNat 1)), (2, .inl (.ofNat 0, .ofNat 24)), (3, .inl (.ofNat 0, .ofNat 3))], [], (80, [(62, .inr (.inr (.inr (7, [.inr (.inr (some 71)), .inr (.inr (some 72)), .inl (.ofNat 2, .ofNat 5), .inl (.ofNat 2, .ofNat 5), .inl (.ofNat 0, .ofNat 5), .inr (.inr (some 73)), .inl (v 0), .inl (v 1), .inl (v 2), .inl am_top, .inl am_top, .inl am_top, .inr (.inr (some 74)), .inl (.ofNat 0, .ofNat 160), .inl (v 3), .inl (.ofNat 0, .ofNat 160), .inl (v 4), .inl am_top, .inl (v 5), .inl am_top, .inr (.inr (some 75)), .inr (.inr (some 76)), .inr (.inr (some 77)), .inr (.inr (some 78)), .inr (.inr (some 79)), .inr (.inr (some 80)), .inr (.inr (some 81)), .inl (.negSucc 0, .ofNat 6), .inr (.inr (some 82)), .inr (.inr (some 83)), .inr (.inr (some 84)), .inr (.inr (some 85)), .inr (.inr (some 86)), .inl am_top, .inr (.inr (some 87))]))))]))]
noncomputable def vd_3499_0_0 : List (List Nat) := [[1130302248517632, 47390263119738795261953, 15772778635496170866278401, 3382145196228610, 940693817642713090, 37853514571214479360001, 2256245289385986, 940130867689291778], [185118215311479275522, 848827271806976, 47390262838263818551297, 15772760188752097156726785, 3381045684600834, 940692718131085314, 37835067827140769808385, 2255145777758210], [940129768177664002, 185118214211967647746, 567352295096320, 47390262556788841840641, 15772741742008023447175169, 3379946172973058, 940691618619457538, 37816621083067060256769], [2254046266130434, 940128668666036226, 185118213112456019970, 285877318385664, 47390262275313865129985, 15772723295263949737623553, 3378846661345282, 940690519107829762], [37798174338993350705153, 2252946754502658, 940127569154408450, 185118212012944392194, 4402341675008, 47390261993838888419329, 15772704848519876028071937, 3377747149717506], [940689419596201986, 37779727594919641153537, 2251847242874882, 940126469642780674, 185118210913432764418]]
noncomputable def vd_3499_0 : List (List (List Nat)) := [vd_3499_0_0]
noncomputable def vd_3499 : List (List (List (List Nat))) := [vd_3499_0]
noncomputable def vt_3499 : List (List am_I) := [[(.ofNat 0, .ofNat 5), (.ofNat 0, .ofNat 160), (.ofNat 0, .ofNat 3), (.ofNat 1, .ofNat 6), (.ofNat 2, .ofNat 5), (.ofNat 1, .ofNat 160), (.ofNat 1, .ofNat 3), (.ofNat 2, .ofNat 160)]]
noncomputable def vc_3499 : vm_C := (fun _ => vp_3499, fun pc => (match Nat.beq pc 0 with
  | true => [(fun _ _ => some (.inr (62, 8)), fun _ _ => some [.ofNat 1, .ofNat 2, .ofNat 3, .ofNat 4, .ofNat 5])]
  | false => []), [5, 12], 45, vm_inst 8 7 vt_3499 vf_3499 vd_3499)
theorem vx_3499_0 : vm_chk bt_165 [] vk_3499 36 vc_3499 0 11 = true := by decide +kernel
theorem vx_3499_1 : vm_chk bt_165 [] vk_3499 36 vc_3499 11 11 = true := by decide +kernel
theorem vx_3499_2 : vm_chk bt_165 [] vk_3499 36 vc_3499 22 10 = true := by decide +kernel
theorem vx_3499_3 : vm_chk bt_165 [] vk_3499 36 vc_3499 32 11 = true := by decide +kernel
theorem vx_3499_4 : vm_chk bt_165 [] vk_3499 36 vc_3499 43 2 = true := by decide +kernel
theorem vy_3499 : vm_ents 165 36 vc_3499 ve_3499 = true := by decide +kernel
theorem vw_3499 : ∀ q ∈ vk_3499, vm_wt 4 q := vm_wts (vm_kc (vm_up v_922 rfl) (vm_kc (vm_up (v_F_rn_0_3 1 (by decide) (by decide)) rfl) (vm_kc (vm_up v_3497 rfl) (vm_kc (vm_up v_3498 rfl) vm_kn)))) (by decide +kernel)
theorem v_3499 : vm_at 5 q_3499 := vm_ok (inl := []) (es := ve_3499) bq_165 (by decide) vw_3499 vy_3499 (fun i => vm_hc vx_3499_4 rfl (vm_hc vx_3499_3 rfl (vm_hc vx_3499_2 rfl (vm_hc vx_3499_1 rfl (vm_hc vx_3499_0 rfl (fun h => absurd h (Nat.not_lt_zero _))))))) _ List.mem_cons_self
noncomputable def vp_F_readOne (s : Nat) : List vm_R := [(none, (80, [(62, .inr (.inr (.inr (7, [.inr (.inr (some 71)), .inr (.inr (some 72)), .inl (.ofNat 2, .ofNat 5), .inl (.ofNat 2, .ofNat 5), .inl (.ofNat 0, .ofNat 5), .inr (.inr (some 73)), .inl (.ofNat 2, .ofNat 5), .inl (.ofNat 2, .ofNat 5), .inl (.ofNat 0, .ofNat 5), .inl am_top, .inl am_top, .inl am_top, .inr (.inr (some 74)), .inl (.ofNat 0, .ofNat 160), .inl (.ofNat (s + 0), .ofNat 160), .inl (.ofNat 0, .ofNat 160), .inl (.ofNat 0, .ofNat 0), .inl am_top, .inl (.ofNat 0, .ofNat 0), .inl am_top, .inr (.inr (some 75)), .inr (.inr (some 76)), .inr (.inr (some 77)), .inr (.inr (some 78)), .inr (.inr (some 79)), .inr (.inr (some 80)), .inr (.inr (some 81)), .inl (.negSucc 0, .ofNat 6), .inr (.inr (some 82)), .inr (.inr (some 83)), .inr (.inr (some 84)), .inr (.inr (some 85)), .inr (.inr (some 86)), .inl am_top, .inr (.inr (some 87))]))))])), (none, (80, [(62, .inr (.inr (.inr (7, [.inr (.inr (some 71)), .inr (.inr (some 72)), .inl (.ofNat 2, .ofNat 5), .inl (.ofNat 2, .ofNat 5), .inl (.ofNat 0, .ofNat 5), .inr (.inr (some 73)), .inl (.ofNat 2, .ofNat 5), .inl (.ofNat 2, .ofNat 5), .inl (.ofNat 0, .ofNat 5), .inl am_top, .inl am_top, .inl am_top, .inr (.inr (some 74)), .inl (.ofNat 0, .ofNat 160), .inl (.ofNat (s + 1), .ofNat 160), .inl (.ofNat 0, .ofNat 160), .inl (.ofNat 1, .ofNat 3), .inl am_top, .inl (.ofNat 0, .ofNat 0), .inl am_top, .inr (.inr (some 75)), .inr (.inr (some 76)), .inr (.inr (some 77)), .inr (.inr (some 78)), .inr (.inr (some 79)), .inr (.inr (some 80)), .inr (.inr (some 81)), .inl (.negSucc 0, .ofNat 6), .inr (.inr (some 82)), .inr (.inr (some 83)), .inr (.inr (some 84)), .inr (.inr (some 85)), .inr (.inr (some 86)), .inl am_top, .inr (.inr (some 87))]))))])), (none, (80, [(62, .inr (.inr (.inr (7, [.inr (.inr (some 71)), .inr (.inr (some 72)), .inl (.ofNat 2, .ofNat 5), .inl (.ofNat 2, .ofNat 5), .inl (.ofNat 0, .ofNat 5), .inr (.inr (some 73)), .inl (.ofNat 0, .ofNat 5), .inl (.ofNat 0, .ofNat 5), .inl (.ofNat 0, .ofNat 5), .inl am_top, .inl am_top, .inl am_top, .inr (.inr (some 74)), .inl (.ofNat 0, .ofNat 160), .inl (.ofNat 0, .ofNat 160), .inl (.ofNat 0, .ofNat 160), .inl (.ofNat 0, .ofNat 3), .inl am_top, .inl (.ofNat 1, .ofNat 6), .inl am_top, .inr (.inr (some 75)), .inr (.inr (some 76)), .inr (.inr (some 77)), .inr (.inr (some 78)), .inr (.inr (some 79)), .inr (.inr (some 80)), .inr (.inr (some 81)), .inl (.negSucc 0, .ofNat 6), .inr (.inr (some 82)), .inr (.inr (some 83)), .inr (.inr (some 84)), .inr (.inr (some 85)), .inr (.inr (some 86)), .inl am_top, .inr (.inr (some 87))]))))]))]
noncomputable def vk_F_readOne (s : Nat) : List vm_U := [(q_922, false, [(7, 62, 8)]), ((q_F_rn_0_3 (s + 1)), false, [(7, 62, 6), (7, 62, 7), (7, 62, 8)]), ((q_F_rn_0_3 (s + 0)), false, [(7, 62, 6), (7, 62, 7), (7, 62, 8)]), ((q_F_readFree (s + 0)), false, [(7, 62, 6), (7, 62, 7), (7, 62, 8)])]
noncomputable def vf_F_readOne (s : Nat) : List ((Nat → am_I) → vm_A) := [fun v => (0, [(0, .inr (.inr (some 70))), (1, .inl (.ofNat 0, .ofNat 1))], [], (80, [(62, .inr (.inr (.inr (7, [.inr (.inr (some 71)), .inr (.inr (some 72)), .inl (.ofNat 2, .ofNat 5), .inl (.ofNat 2, .ofNat 5), .inl (.ofNat 0, .ofNat 5), .inr (.inr (some 73)), .inl (.ofNat 2, .ofNat 5), .inl (.ofNat 2, .ofNat 5), .inl (v 0), .inl am_top, .inl am_top, .inl am_top, .inr (.inr (some 74)), .inl (.ofNat 0, .ofNat 160), .inl (.ofNat (s + 0), .ofNat 160), .inl (.ofNat 0, .ofNat 160), .inl (.ofNat 0, .ofNat 3), .inl am_top, .inl (.ofNat 0, .ofNat 0), .inl am_top, .inr (.inr (some 75)), .inr (.inr (some 76)), .inr (.inr (some 77)), .inr (.inr (some 78)), .inr (.inr (some 79)), .inr (.inr (some 80)), .inr (.inr (some 81)), .inl (.negSucc 0, .ofNat 6), .inr (.inr (some 82)), .inr (.inr (some 83)), .inr (.inr (some 84)), .inr (.inr (some 85)), .inr (.inr (some 86)), .inl am_top, .inr (.inr (some 87))]))))])), fun v => (5, [(0, .inr (.inr (some 70))), (1, .inl (.ofNat 0, .ofNat 1)), (2, .inl (.ofNat 0, .ofNat 24))], [], (80, [(62, .inr (.inr (.inr (7, [.inr (.inr (some 71)), .inr (.inr (some 72)), .inl (.ofNat 2, .ofNat 5), .inl (.ofNat 2, .ofNat 5), .inl (.ofNat 0, .ofNat 5), .inr (.inr (some 73)), .inl (v 0), .inl (v 1), .inl (v 2), .inl am_top, .inl am_top, .inl am_top, .inr (.inr (some 74)), .inl (.ofNat 0, .ofNat 160), .inl (v 3), .inl (.ofNat 0, .ofNat 160), .inl (v 4), .inl am_top, .inl (v 5), .inl am_top, .inr (.inr (some 75)), .inr (.inr (some 76)), .inr (.inr (some 77)), .inr (.inr (some 78)), .inr (.inr (some 79)), .inr (.inr (some 80)), .inr (.inr (some 81)), .inl (.negSucc 0, .ofNat 6), .inr (.inr (some 82)), .inr (.inr (some 83)), .inr (.inr (some 84)), .inr (.inr (some 85)), .inr (.inr (some 86)), .inl am_top, .inr (.inr (some 87))]))))])), fun v => (12, [(0, .inr (.inr (some 70))), (1, .inl (.ofNat 0, .ofNat 1)), (2, .inl (.ofNat 0, .ofNat 24)), (3, .inl (.ofNat 0, .ofNat 3))], [], (80, [(62, .inr (.inr (.inr (7, [.inr (.inr (some 71)), .inr (.inr (some 72)), .inl (.ofNat 2, .ofNat 5), .inl (.ofNat 2, .ofNat 5), .inl (.ofNat 0, .ofNat 5), .inr (.inr (some 73)), .inl (v 0), .inl (v 1), .inl (v 2), .inl am_top, .inl am_top, .inl am_top, .inr (.inr (some 74)), .inl (.ofNat 0, .ofNat 160), .inl (v 3), .inl (.ofNat 0, .ofNat 160), .inl (v 4), .inl am_top, .inl (v 5), .inl am_top, .inr (.inr (some 75)), .inr (.inr (some 76)), .inr (.inr (some 77)), .inr (.inr (some 78)), .inr (.inr (some 79)), .inr (.inr (some 80)), .inr (.inr (some 81)), .inl (.negSucc 0, .ofNat 6), .inr (.inr (some 82)), .inr (.inr (some 83)), .inr (.inr (some 84)), .inr (.inr (some 85)), .inr (.inr (some 86)), .inl am_top, .inr (.inr (some 87))]))))]))]
noncomputable def vd_F_readOne_0_0 (s : Nat) : List (List Nat) := [[1130302248517632, 47390263119738795261953, 15772778635496170866278401, 3382145196228610, 940975292619423746, 66187713468432350642177, 3945095149649922, 940130867689291778], [185118215311479275522, 848827271806976, 47390262838263818551297, 15772760188752097156726785, 3381045684600834, 940974193107795970, 66169266724358641090561, 3943995638022146], [940129768177664002, 185118214211967647746, 567352295096320, 47390262556788841840641, 15772741742008023447175169, 3379946172973058, 940973093596168194, 66150819980284931538945], [3942896126394370, 940128668666036226, 185118213112456019970, 285877318385664, 47390262275313865129985, 15772723295263949737623553, 3378846661345282, 940971994084540418], [66132373236211221987329, 3941796614766594, 940127569154408450, 185118212012944392194, 4402341675008, 47390261993838888419329, 15772704848519876028071937, 3377747149717506], [940970894572912642, 66113926492137512435713, 3940697103138818, 940126469642780674, 185118210913432764418]]
noncomputable def vd_F_readOne_0 (s : Nat) : List (List (List Nat)) := [vd_F_readOne_0_0 s]
noncomputable def vd_F_readOne (s : Nat) : List (List (List (List Nat))) := [vd_F_readOne_0 s]
noncomputable def vt_F_readOne (s : Nat) : List (List am_I) := [[(.ofNat 0, .ofNat 5), (.ofNat 0, .ofNat 160), (.ofNat 0, .ofNat 3), (.ofNat 1, .ofNat 6), (.ofNat 2, .ofNat 5), (.ofNat (s + 1), .ofNat 160), (.ofNat 1, .ofNat 3), (.ofNat (s + 0), .ofNat 160)], [(.ofNat (s + 2), .ofNat 160)]]
noncomputable def vc_F_readOne (s : Nat) : vm_C := (fun _ => vp_F_readOne s, fun pc => (match Nat.beq pc 0 with
  | true => [(fun _ _ => some (.inr (62, 8)), fun _ _ => some [.ofNat 1, .ofNat 2, .ofNat 3, .ofNat 4, .ofNat 5])]
  | false => []), [5, 12], 45, vm_inst 8 7 (vt_F_readOne s) (vf_F_readOne s) (vd_F_readOne s))
noncomputable def ve_F_readOne (s : Nat) : List vm_E := [([.inr (.inr (some 70)), .inl (.ofNat 0, .ofNat 1)], (80, [(62, .inr (.inr (.inr (7, [.inr (.inr (some 71)), .inr (.inr (some 72)), .inl (.ofNat 2, .ofNat 5), .inl (.ofNat 2, .ofNat 5), .inl (.ofNat 0, .ofNat 5), .inr (.inr (some 73)), .inl (.ofNat 2, .ofNat 5), .inl (.ofNat 2, .ofNat 5), .inl (.ofNat 0, .ofNat 4), .inl am_top, .inl am_top, .inl am_top, .inr (.inr (some 74)), .inl (.ofNat 0, .ofNat 160), .inl (.ofNat (s + 0), .ofNat 160), .inl (.ofNat 0, .ofNat 160), .inl (.ofNat 0, .ofNat 3), .inl am_top, .inl (.ofNat 0, .ofNat 0), .inl am_top, .inr (.inr (some 75)), .inr (.inr (some 76)), .inr (.inr (some 77)), .inr (.inr (some 78)), .inr (.inr (some 79)), .inr (.inr (some 80)), .inr (.inr (some 81)), .inl (.negSucc 0, .ofNat 6), .inr (.inr (some 82)), .inr (.inr (some 83)), .inr (.inr (some 84)), .inr (.inr (some 85)), .inr (.inr (some 86)), .inl am_top, .inr (.inr (some 87))]))))]), 0, [0, 9, 18, 27, 36])]
noncomputable def q_F_readOne (s : Nat) : vm_Q := (165, [.inr (.inr (some 70)), .inl (.ofNat 0, .ofNat 1)], (80, [(62, .inr (.inr (.inr (7, [.inr (.inr (some 71)), .inr (.inr (some 72)), .inl (.ofNat 2, .ofNat 5), .inl (.ofNat 2, .ofNat 5), .inl (.ofNat 0, .ofNat 5), .inr (.inr (some 73)), .inl (.ofNat 2, .ofNat 5), .inl (.ofNat 2, .ofNat 5), .inl (.ofNat 0, .ofNat 4), .inl am_top, .inl am_top, .inl am_top, .inr (.inr (some 74)), .inl (.ofNat 0, .ofNat 160), .inl (.ofNat (s + 0), .ofNat 160), .inl (.ofNat 0, .ofNat 160), .inl (.ofNat 0, .ofNat 3), .inl am_top, .inl (.ofNat 0, .ofNat 0), .inl am_top, .inr (.inr (some 75)), .inr (.inr (some 76)), .inr (.inr (some 77)), .inr (.inr (some 78)), .inr (.inr (some 79)), .inr (.inr (some 80)), .inr (.inr (some 81)), .inl (.negSucc 0, .ofNat 6), .inr (.inr (some 82)), .inr (.inr (some 83)), .inr (.inr (some 84)), .inr (.inr (some 85)), .inr (.inr (some 86)), .inl am_top, .inr (.inr (some 87))]))))]), vp_F_readOne s)
theorem vx_F_readOne_0 : vm_rng (fun s => vm_chk bt_165 [] (vk_F_readOne s) 36 (vc_F_readOne s) 0 45 && (vm_ents 165 36 (vc_F_readOne s) (ve_F_readOne s) && vm_kok (vk_F_readOne s))) 1 1 = true := by decide +kernel
theorem vx_F_readOne_1 : vm_rng (fun s => vm_chk bt_165 [] (vk_F_readOne s) 36 (vc_F_readOne s) 0 45 && (vm_ents 165 36 (vc_F_readOne s) (ve_F_readOne s) && vm_kok (vk_F_readOne s))) 2 1 = true := by decide +kernel
theorem vx_F_readOne_2 : vm_rng (fun s => vm_chk bt_165 [] (vk_F_readOne s) 36 (vc_F_readOne s) 0 45 && (vm_ents 165 36 (vc_F_readOne s) (ve_F_readOne s) && vm_kok (vk_F_readOne s))) 3 1 = true := by decide +kernel
theorem vx_F_readOne_3 : vm_rng (fun s => vm_chk bt_165 [] (vk_F_readOne s) 36 (vc_F_readOne s) 0 45 && (vm_ents 165 36 (vc_F_readOne s) (ve_F_readOne s) && vm_kok (vk_F_readOne s))) 4 1 = true := by decide +kernel
theorem vx_F_readOne_4 : vm_rng (fun s => vm_chk bt_165 [] (vk_F_readOne s) 36 (vc_F_readOne s) 0 45 && (vm_ents 165 36 (vc_F_readOne s) (ve_F_readOne s) && vm_kok (vk_F_readOne s))) 5 1 = true := by decide +kernel
theorem vx_F_readOne_5 : vm_rng (fun s => vm_chk bt_165 [] (vk_F_readOne s) 36 (vc_F_readOne s) 0 45 && (vm_ents 165 36 (vc_F_readOne s) (ve_F_readOne s) && vm_kok (vk_F_readOne s))) 6 1 = true := by decide +kernel
theorem vx_F_readOne_6 : vm_rng (fun s => vm_chk bt_165 [] (vk_F_readOne s) 36 (vc_F_readOne s) 0 45 && (vm_ents 165 36 (vc_F_readOne s) (ve_F_readOne s) && vm_kok (vk_F_readOne s))) 7 1 = true := by decide +kernel
theorem vx_F_readOne_7 : vm_rng (fun s => vm_chk bt_165 [] (vk_F_readOne s) 36 (vc_F_readOne s) 0 45 && (vm_ents 165 36 (vc_F_readOne s) (ve_F_readOne s) && vm_kok (vk_F_readOne s))) 8 1 = true := by decide +kernel
theorem vx_F_readOne_8 : vm_rng (fun s => vm_chk bt_165 [] (vk_F_readOne s) 36 (vc_F_readOne s) 0 45 && (vm_ents 165 36 (vc_F_readOne s) (ve_F_readOne s) && vm_kok (vk_F_readOne s))) 9 1 = true := by decide +kernel
theorem vx_F_readOne_9 : vm_rng (fun s => vm_chk bt_165 [] (vk_F_readOne s) 36 (vc_F_readOne s) 0 45 && (vm_ents 165 36 (vc_F_readOne s) (ve_F_readOne s) && vm_kok (vk_F_readOne s))) 10 1 = true := by decide +kernel
theorem vx_F_readOne_10 : vm_rng (fun s => vm_chk bt_165 [] (vk_F_readOne s) 36 (vc_F_readOne s) 0 45 && (vm_ents 165 36 (vc_F_readOne s) (ve_F_readOne s) && vm_kok (vk_F_readOne s))) 11 1 = true := by decide +kernel
theorem vx_F_readOne_11 : vm_rng (fun s => vm_chk bt_165 [] (vk_F_readOne s) 36 (vc_F_readOne s) 0 45 && (vm_ents 165 36 (vc_F_readOne s) (ve_F_readOne s) && vm_kok (vk_F_readOne s))) 12 1 = true := by decide +kernel
theorem vx_F_readOne_12 : vm_rng (fun s => vm_chk bt_165 [] (vk_F_readOne s) 36 (vc_F_readOne s) 0 45 && (vm_ents 165 36 (vc_F_readOne s) (ve_F_readOne s) && vm_kok (vk_F_readOne s))) 13 1 = true := by decide +kernel
theorem vx_F_readOne_13 : vm_rng (fun s => vm_chk bt_165 [] (vk_F_readOne s) 36 (vc_F_readOne s) 0 45 && (vm_ents 165 36 (vc_F_readOne s) (ve_F_readOne s) && vm_kok (vk_F_readOne s))) 14 1 = true := by decide +kernel
theorem vx_F_readOne_14 : vm_rng (fun s => vm_chk bt_165 [] (vk_F_readOne s) 36 (vc_F_readOne s) 0 45 && (vm_ents 165 36 (vc_F_readOne s) (ve_F_readOne s) && vm_kok (vk_F_readOne s))) 15 1 = true := by decide +kernel
theorem vx_F_readOne_15 : vm_rng (fun s => vm_chk bt_165 [] (vk_F_readOne s) 36 (vc_F_readOne s) 0 45 && (vm_ents 165 36 (vc_F_readOne s) (ve_F_readOne s) && vm_kok (vk_F_readOne s))) 16 1 = true := by decide +kernel
theorem vx_F_readOne_16 : vm_rng (fun s => vm_chk bt_165 [] (vk_F_readOne s) 36 (vc_F_readOne s) 0 45 && (vm_ents 165 36 (vc_F_readOne s) (ve_F_readOne s) && vm_kok (vk_F_readOne s))) 17 1 = true := by decide +kernel
theorem vx_F_readOne_17 : vm_rng (fun s => vm_chk bt_165 [] (vk_F_readOne s) 36 (vc_F_readOne s) 0 45 && (vm_ents 165 36 (vc_F_readOne s) (ve_F_readOne s) && vm_kok (vk_F_readOne s))) 18 1 = true := by decide +kernel
theorem vx_F_readOne_18 : vm_rng (fun s => vm_chk bt_165 [] (vk_F_readOne s) 36 (vc_F_readOne s) 0 45 && (vm_ents 165 36 (vc_F_readOne s) (ve_F_readOne s) && vm_kok (vk_F_readOne s))) 19 1 = true := by decide +kernel
theorem vx_F_readOne_19 : vm_rng (fun s => vm_chk bt_165 [] (vk_F_readOne s) 36 (vc_F_readOne s) 0 45 && (vm_ents 165 36 (vc_F_readOne s) (ve_F_readOne s) && vm_kok (vk_F_readOne s))) 20 1 = true := by decide +kernel
theorem vx_F_readOne_20 : vm_rng (fun s => vm_chk bt_165 [] (vk_F_readOne s) 36 (vc_F_readOne s) 0 45 && (vm_ents 165 36 (vc_F_readOne s) (ve_F_readOne s) && vm_kok (vk_F_readOne s))) 21 1 = true := by decide +kernel
theorem vx_F_readOne_21 : vm_rng (fun s => vm_chk bt_165 [] (vk_F_readOne s) 36 (vc_F_readOne s) 0 45 && (vm_ents 165 36 (vc_F_readOne s) (ve_F_readOne s) && vm_kok (vk_F_readOne s))) 22 1 = true := by decide +kernel
theorem vx_F_readOne_22 : vm_rng (fun s => vm_chk bt_165 [] (vk_F_readOne s) 36 (vc_F_readOne s) 0 45 && (vm_ents 165 36 (vc_F_readOne s) (ve_F_readOne s) && vm_kok (vk_F_readOne s))) 23 1 = true := by decide +kernel
theorem vx_F_readOne_23 : vm_rng (fun s => vm_chk bt_165 [] (vk_F_readOne s) 36 (vc_F_readOne s) 0 45 && (vm_ents 165 36 (vc_F_readOne s) (ve_F_readOne s) && vm_kok (vk_F_readOne s))) 24 1 = true := by decide +kernel
theorem vx_F_readOne_24 : vm_rng (fun s => vm_chk bt_165 [] (vk_F_readOne s) 36 (vc_F_readOne s) 0 45 && (vm_ents 165 36 (vc_F_readOne s) (ve_F_readOne s) && vm_kok (vk_F_readOne s))) 25 1 = true := by decide +kernel
theorem vx_F_readOne_25 : vm_rng (fun s => vm_chk bt_165 [] (vk_F_readOne s) 36 (vc_F_readOne s) 0 45 && (vm_ents 165 36 (vc_F_readOne s) (ve_F_readOne s) && vm_kok (vk_F_readOne s))) 26 1 = true := by decide +kernel
theorem vx_F_readOne_26 : vm_rng (fun s => vm_chk bt_165 [] (vk_F_readOne s) 36 (vc_F_readOne s) 0 45 && (vm_ents 165 36 (vc_F_readOne s) (ve_F_readOne s) && vm_kok (vk_F_readOne s))) 27 1 = true := by decide +kernel
theorem vx_F_readOne_27 : vm_rng (fun s => vm_chk bt_165 [] (vk_F_readOne s) 36 (vc_F_readOne s) 0 45 && (vm_ents 165 36 (vc_F_readOne s) (ve_F_readOne s) && vm_kok (vk_F_readOne s))) 28 1 = true := by decide +kernel
theorem vx_F_readOne_28 : vm_rng (fun s => vm_chk bt_165 [] (vk_F_readOne s) 36 (vc_F_readOne s) 0 45 && (vm_ents 165 36 (vc_F_readOne s) (ve_F_readOne s) && vm_kok (vk_F_readOne s))) 29 1 = true := by decide +kernel
theorem vx_F_readOne_29 : vm_rng (fun s => vm_chk bt_165 [] (vk_F_readOne s) 36 (vc_F_readOne s) 0 45 && (vm_ents 165 36 (vc_F_readOne s) (ve_F_readOne s) && vm_kok (vk_F_readOne s))) 30 1 = true := by decide +kernel
theorem vx_F_readOne_30 : vm_rng (fun s => vm_chk bt_165 [] (vk_F_readOne s) 36 (vc_F_readOne s) 0 45 && (vm_ents 165 36 (vc_F_readOne s) (ve_F_readOne s) && vm_kok (vk_F_readOne s))) 31 1 = true := by decide +kernel
theorem vx_F_readOne_31 : vm_rng (fun s => vm_chk bt_165 [] (vk_F_readOne s) 36 (vc_F_readOne s) 0 45 && (vm_ents 165 36 (vc_F_readOne s) (ve_F_readOne s) && vm_kok (vk_F_readOne s))) 32 1 = true := by decide +kernel
theorem vx_F_readOne_32 : vm_rng (fun s => vm_chk bt_165 [] (vk_F_readOne s) 36 (vc_F_readOne s) 0 45 && (vm_ents 165 36 (vc_F_readOne s) (ve_F_readOne s) && vm_kok (vk_F_readOne s))) 33 1 = true := by decide +kernel
theorem vx_F_readOne_33 : vm_rng (fun s => vm_chk bt_165 [] (vk_F_readOne s) 36 (vc_F_readOne s) 0 45 && (vm_ents 165 36 (vc_F_readOne s) (ve_F_readOne s) && vm_kok (vk_F_readOne s))) 34 1 = true := by decide +kernel
theorem vx_F_readOne_34 : vm_rng (fun s => vm_chk bt_165 [] (vk_F_readOne s) 36 (vc_F_readOne s) 0 45 && (vm_ents 165 36 (vc_F_readOne s) (ve_F_readOne s) && vm_kok (vk_F_readOne s))) 35 1 = true := by decide +kernel
theorem vx_F_readOne_35 : vm_rng (fun s => vm_chk bt_165 [] (vk_F_readOne s) 36 (vc_F_readOne s) 0 45 && (vm_ents 165 36 (vc_F_readOne s) (ve_F_readOne s) && vm_kok (vk_F_readOne s))) 36 1 = true := by decide +kernel
theorem vx_F_readOne_36 : vm_rng (fun s => vm_chk bt_165 [] (vk_F_readOne s) 36 (vc_F_readOne s) 0 45 && (vm_ents 165 36 (vc_F_readOne s) (ve_F_readOne s) && vm_kok (vk_F_readOne s))) 37 1 = true := by decide +kernel
theorem vx_F_readOne_37 : vm_rng (fun s => vm_chk bt_165 [] (vk_F_readOne s) 36 (vc_F_readOne s) 0 45 && (vm_ents 165 36 (vc_F_readOne s) (ve_F_readOne s) && vm_kok (vk_F_readOne s))) 38 1 = true := by decide +kernel
theorem vx_F_readOne_38 : vm_rng (fun s => vm_chk bt_165 [] (vk_F_readOne s) 36 (vc_F_readOne s) 0 45 && (vm_ents 165 36 (vc_F_readOne s) (ve_F_readOne s) && vm_kok (vk_F_readOne s))) 39 1 = true := by decide +kernel
theorem vx_F_readOne_39 : vm_rng (fun s => vm_chk bt_165 [] (vk_F_readOne s) 36 (vc_F_readOne s) 0 45 && (vm_ents 165 36 (vc_F_readOne s) (ve_F_readOne s) && vm_kok (vk_F_readOne s))) 40 1 = true := by decide +kernel
theorem vx_F_readOne_40 : vm_rng (fun s => vm_chk bt_165 [] (vk_F_readOne s) 36 (vc_F_readOne s) 0 45 && (vm_ents 165 36 (vc_F_readOne s) (ve_F_readOne s) && vm_kok (vk_F_readOne s))) 41 1 = true := by decide +kernel
theorem vx_F_readOne_41 : vm_rng (fun s => vm_chk bt_165 [] (vk_F_readOne s) 36 (vc_F_readOne s) 0 45 && (vm_ents 165 36 (vc_F_readOne s) (ve_F_readOne s) && vm_kok (vk_F_readOne s))) 42 1 = true := by decide +kernel
theorem vx_F_readOne_42 : vm_rng (fun s => vm_chk bt_165 [] (vk_F_readOne s) 36 (vc_F_readOne s) 0 45 && (vm_ents 165 36 (vc_F_readOne s) (ve_F_readOne s) && vm_kok (vk_F_readOne s))) 43 1 = true := by decide +kernel
theorem vx_F_readOne_43 : vm_rng (fun s => vm_chk bt_165 [] (vk_F_readOne s) 36 (vc_F_readOne s) 0 45 && (vm_ents 165 36 (vc_F_readOne s) (ve_F_readOne s) && vm_kok (vk_F_readOne s))) 44 1 = true := by decide +kernel
theorem vx_F_readOne_44 : vm_rng (fun s => vm_chk bt_165 [] (vk_F_readOne s) 36 (vc_F_readOne s) 0 45 && (vm_ents 165 36 (vc_F_readOne s) (ve_F_readOne s) && vm_kok (vk_F_readOne s))) 45 1 = true := by decide +kernel
theorem vx_F_readOne_45 : vm_rng (fun s => vm_chk bt_165 [] (vk_F_readOne s) 36 (vc_F_readOne s) 0 45 && (vm_ents 165 36 (vc_F_readOne s) (ve_F_readOne s) && vm_kok (vk_F_readOne s))) 46 1 = true := by decide +kernel
theorem vx_F_readOne_46 : vm_rng (fun s => vm_chk bt_165 [] (vk_F_readOne s) 36 (vc_F_readOne s) 0 45 && (vm_ents 165 36 (vc_F_readOne s) (ve_F_readOne s) && vm_kok (vk_F_readOne s))) 47 1 = true := by decide +kernel
theorem vx_F_readOne_47 : vm_rng (fun s => vm_chk bt_165 [] (vk_F_readOne s) 36 (vc_F_readOne s) 0 45 && (vm_ents 165 36 (vc_F_readOne s) (ve_F_readOne s) && vm_kok (vk_F_readOne s))) 48 1 = true := by decide +kernel
theorem vx_F_readOne_48 : vm_rng (fun s => vm_chk bt_165 [] (vk_F_readOne s) 36 (vc_F_readOne s) 0 45 && (vm_ents 165 36 (vc_F_readOne s) (ve_F_readOne s) && vm_kok (vk_F_readOne s))) 49 1 = true := by decide +kernel
theorem vx_F_readOne_49 : vm_rng (fun s => vm_chk bt_165 [] (vk_F_readOne s) 36 (vc_F_readOne s) 0 45 && (vm_ents 165 36 (vc_F_readOne s) (ve_F_readOne s) && vm_kok (vk_F_readOne s))) 50 1 = true := by decide +kernel
theorem vx_F_readOne_50 : vm_rng (fun s => vm_chk bt_165 [] (vk_F_readOne s) 36 (vc_F_readOne s) 0 45 && (vm_ents 165 36 (vc_F_readOne s) (ve_F_readOne s) && vm_kok (vk_F_readOne s))) 51 1 = true := by decide +kernel
theorem vx_F_readOne_51 : vm_rng (fun s => vm_chk bt_165 [] (vk_F_readOne s) 36 (vc_F_readOne s) 0 45 && (vm_ents 165 36 (vc_F_readOne s) (ve_F_readOne s) && vm_kok (vk_F_readOne s))) 52 1 = true := by decide +kernel
theorem vx_F_readOne_52 : vm_rng (fun s => vm_chk bt_165 [] (vk_F_readOne s) 36 (vc_F_readOne s) 0 45 && (vm_ents 165 36 (vc_F_readOne s) (ve_F_readOne s) && vm_kok (vk_F_readOne s))) 53 1 = true := by decide +kernel
theorem vx_F_readOne_53 : vm_rng (fun s => vm_chk bt_165 [] (vk_F_readOne s) 36 (vc_F_readOne s) 0 45 && (vm_ents 165 36 (vc_F_readOne s) (ve_F_readOne s) && vm_kok (vk_F_readOne s))) 54 1 = true := by decide +kernel
theorem vx_F_readOne_54 : vm_rng (fun s => vm_chk bt_165 [] (vk_F_readOne s) 36 (vc_F_readOne s) 0 45 && (vm_ents 165 36 (vc_F_readOne s) (ve_F_readOne s) && vm_kok (vk_F_readOne s))) 55 1 = true := by decide +kernel
theorem vx_F_readOne_55 : vm_rng (fun s => vm_chk bt_165 [] (vk_F_readOne s) 36 (vc_F_readOne s) 0 45 && (vm_ents 165 36 (vc_F_readOne s) (ve_F_readOne s) && vm_kok (vk_F_readOne s))) 56 1 = true := by decide +kernel
theorem vx_F_readOne_56 : vm_rng (fun s => vm_chk bt_165 [] (vk_F_readOne s) 36 (vc_F_readOne s) 0 45 && (vm_ents 165 36 (vc_F_readOne s) (ve_F_readOne s) && vm_kok (vk_F_readOne s))) 57 1 = true := by decide +kernel
theorem vx_F_readOne_57 : vm_rng (fun s => vm_chk bt_165 [] (vk_F_readOne s) 36 (vc_F_readOne s) 0 45 && (vm_ents 165 36 (vc_F_readOne s) (ve_F_readOne s) && vm_kok (vk_F_readOne s))) 58 1 = true := by decide +kernel
theorem vx_F_readOne_58 : vm_rng (fun s => vm_chk bt_165 [] (vk_F_readOne s) 36 (vc_F_readOne s) 0 45 && (vm_ents 165 36 (vc_F_readOne s) (ve_F_readOne s) && vm_kok (vk_F_readOne s))) 59 1 = true := by decide +kernel
theorem vx_F_readOne_59 : vm_rng (fun s => vm_chk bt_165 [] (vk_F_readOne s) 36 (vc_F_readOne s) 0 45 && (vm_ents 165 36 (vc_F_readOne s) (ve_F_readOne s) && vm_kok (vk_F_readOne s))) 60 1 = true := by decide +kernel
theorem vx_F_readOne_60 : vm_rng (fun s => vm_chk bt_165 [] (vk_F_readOne s) 36 (vc_F_readOne s) 0 45 && (vm_ents 165 36 (vc_F_readOne s) (ve_F_readOne s) && vm_kok (vk_F_readOne s))) 61 1 = true := by decide +kernel
theorem vx_F_readOne_61 : vm_rng (fun s => vm_chk bt_165 [] (vk_F_readOne s) 36 (vc_F_readOne s) 0 45 && (vm_ents 165 36 (vc_F_readOne s) (ve_F_readOne s) && vm_kok (vk_F_readOne s))) 62 1 = true := by decide +kernel
theorem vx_F_readOne_62 : vm_rng (fun s => vm_chk bt_165 [] (vk_F_readOne s) 36 (vc_F_readOne s) 0 45 && (vm_ents 165 36 (vc_F_readOne s) (ve_F_readOne s) && vm_kok (vk_F_readOne s))) 63 1 = true := by decide +kernel
theorem vx_F_readOne_63 : vm_rng (fun s => vm_chk bt_165 [] (vk_F_readOne s) 36 (vc_F_readOne s) 0 45 && (vm_ents 165 36 (vc_F_readOne s) (ve_F_readOne s) && vm_kok (vk_F_readOne s))) 64 1 = true := by decide +kernel
theorem vx_F_readOne_64 : vm_rng (fun s => vm_chk bt_165 [] (vk_F_readOne s) 36 (vc_F_readOne s) 0 45 && (vm_ents 165 36 (vc_F_readOne s) (ve_F_readOne s) && vm_kok (vk_F_readOne s))) 65 1 = true := by decide +kernel
theorem vx_F_readOne_65 : vm_rng (fun s => vm_chk bt_165 [] (vk_F_readOne s) 36 (vc_F_readOne s) 0 45 && (vm_ents 165 36 (vc_F_readOne s) (ve_F_readOne s) && vm_kok (vk_F_readOne s))) 66 1 = true := by decide +kernel
theorem vx_F_readOne_66 : vm_rng (fun s => vm_chk bt_165 [] (vk_F_readOne s) 36 (vc_F_readOne s) 0 45 && (vm_ents 165 36 (vc_F_readOne s) (ve_F_readOne s) && vm_kok (vk_F_readOne s))) 67 1 = true := by decide +kernel
theorem vx_F_readOne_67 : vm_rng (fun s => vm_chk bt_165 [] (vk_F_readOne s) 36 (vc_F_readOne s) 0 45 && (vm_ents 165 36 (vc_F_readOne s) (ve_F_readOne s) && vm_kok (vk_F_readOne s))) 68 1 = true := by decide +kernel
theorem vx_F_readOne_68 : vm_rng (fun s => vm_chk bt_165 [] (vk_F_readOne s) 36 (vc_F_readOne s) 0 45 && (vm_ents 165 36 (vc_F_readOne s) (ve_F_readOne s) && vm_kok (vk_F_readOne s))) 69 1 = true := by decide +kernel
theorem vx_F_readOne_69 : vm_rng (fun s => vm_chk bt_165 [] (vk_F_readOne s) 36 (vc_F_readOne s) 0 45 && (vm_ents 165 36 (vc_F_readOne s) (ve_F_readOne s) && vm_kok (vk_F_readOne s))) 70 1 = true := by decide +kernel
theorem vx_F_readOne_70 : vm_rng (fun s => vm_chk bt_165 [] (vk_F_readOne s) 36 (vc_F_readOne s) 0 45 && (vm_ents 165 36 (vc_F_readOne s) (ve_F_readOne s) && vm_kok (vk_F_readOne s))) 71 1 = true := by decide +kernel
theorem vx_F_readOne_71 : vm_rng (fun s => vm_chk bt_165 [] (vk_F_readOne s) 36 (vc_F_readOne s) 0 45 && (vm_ents 165 36 (vc_F_readOne s) (ve_F_readOne s) && vm_kok (vk_F_readOne s))) 72 1 = true := by decide +kernel
theorem vx_F_readOne_72 : vm_rng (fun s => vm_chk bt_165 [] (vk_F_readOne s) 36 (vc_F_readOne s) 0 45 && (vm_ents 165 36 (vc_F_readOne s) (ve_F_readOne s) && vm_kok (vk_F_readOne s))) 73 1 = true := by decide +kernel
theorem vx_F_readOne_73 : vm_rng (fun s => vm_chk bt_165 [] (vk_F_readOne s) 36 (vc_F_readOne s) 0 45 && (vm_ents 165 36 (vc_F_readOne s) (ve_F_readOne s) && vm_kok (vk_F_readOne s))) 74 1 = true := by decide +kernel
theorem vx_F_readOne_74 : vm_rng (fun s => vm_chk bt_165 [] (vk_F_readOne s) 36 (vc_F_readOne s) 0 45 && (vm_ents 165 36 (vc_F_readOne s) (ve_F_readOne s) && vm_kok (vk_F_readOne s))) 75 1 = true := by decide +kernel
theorem vx_F_readOne_75 : vm_rng (fun s => vm_chk bt_165 [] (vk_F_readOne s) 36 (vc_F_readOne s) 0 45 && (vm_ents 165 36 (vc_F_readOne s) (ve_F_readOne s) && vm_kok (vk_F_readOne s))) 76 1 = true := by decide +kernel
theorem vx_F_readOne_76 : vm_rng (fun s => vm_chk bt_165 [] (vk_F_readOne s) 36 (vc_F_readOne s) 0 45 && (vm_ents 165 36 (vc_F_readOne s) (ve_F_readOne s) && vm_kok (vk_F_readOne s))) 77 1 = true := by decide +kernel
theorem vx_F_readOne_77 : vm_rng (fun s => vm_chk bt_165 [] (vk_F_readOne s) 36 (vc_F_readOne s) 0 45 && (vm_ents 165 36 (vc_F_readOne s) (ve_F_readOne s) && vm_kok (vk_F_readOne s))) 78 1 = true := by decide +kernel
theorem vx_F_readOne_78 : vm_rng (fun s => vm_chk bt_165 [] (vk_F_readOne s) 36 (vc_F_readOne s) 0 45 && (vm_ents 165 36 (vc_F_readOne s) (ve_F_readOne s) && vm_kok (vk_F_readOne s))) 79 1 = true := by decide +kernel
theorem vx_F_readOne_79 : vm_rng (fun s => vm_chk bt_165 [] (vk_F_readOne s) 36 (vc_F_readOne s) 0 45 && (vm_ents 165 36 (vc_F_readOne s) (ve_F_readOne s) && vm_kok (vk_F_readOne s))) 80 1 = true := by decide +kernel
theorem vx_F_readOne_80 : vm_rng (fun s => vm_chk bt_165 [] (vk_F_readOne s) 36 (vc_F_readOne s) 0 45 && (vm_ents 165 36 (vc_F_readOne s) (ve_F_readOne s) && vm_kok (vk_F_readOne s))) 81 1 = true := by decide +kernel
theorem vx_F_readOne_81 : vm_rng (fun s => vm_chk bt_165 [] (vk_F_readOne s) 36 (vc_F_readOne s) 0 45 && (vm_ents 165 36 (vc_F_readOne s) (ve_F_readOne s) && vm_kok (vk_F_readOne s))) 82 1 = true := by decide +kernel
theorem vx_F_readOne_82 : vm_rng (fun s => vm_chk bt_165 [] (vk_F_readOne s) 36 (vc_F_readOne s) 0 45 && (vm_ents 165 36 (vc_F_readOne s) (ve_F_readOne s) && vm_kok (vk_F_readOne s))) 83 1 = true := by decide +kernel
theorem vx_F_readOne_83 : vm_rng (fun s => vm_chk bt_165 [] (vk_F_readOne s) 36 (vc_F_readOne s) 0 45 && (vm_ents 165 36 (vc_F_readOne s) (ve_F_readOne s) && vm_kok (vk_F_readOne s))) 84 1 = true := by decide +kernel
theorem vx_F_readOne_84 : vm_rng (fun s => vm_chk bt_165 [] (vk_F_readOne s) 36 (vc_F_readOne s) 0 45 && (vm_ents 165 36 (vc_F_readOne s) (ve_F_readOne s) && vm_kok (vk_F_readOne s))) 85 1 = true := by decide +kernel
theorem vx_F_readOne_85 : vm_rng (fun s => vm_chk bt_165 [] (vk_F_readOne s) 36 (vc_F_readOne s) 0 45 && (vm_ents 165 36 (vc_F_readOne s) (ve_F_readOne s) && vm_kok (vk_F_readOne s))) 86 1 = true := by decide +kernel
theorem vx_F_readOne_86 : vm_rng (fun s => vm_chk bt_165 [] (vk_F_readOne s) 36 (vc_F_readOne s) 0 45 && (vm_ents 165 36 (vc_F_readOne s) (ve_F_readOne s) && vm_kok (vk_F_readOne s))) 87 1 = true := by decide +kernel
theorem vx_F_readOne_87 : vm_rng (fun s => vm_chk bt_165 [] (vk_F_readOne s) 36 (vc_F_readOne s) 0 45 && (vm_ents 165 36 (vc_F_readOne s) (ve_F_readOne s) && vm_kok (vk_F_readOne s))) 88 1 = true := by decide +kernel
theorem vx_F_readOne_88 : vm_rng (fun s => vm_chk bt_165 [] (vk_F_readOne s) 36 (vc_F_readOne s) 0 45 && (vm_ents 165 36 (vc_F_readOne s) (ve_F_readOne s) && vm_kok (vk_F_readOne s))) 89 1 = true := by decide +kernel
theorem vx_F_readOne_89 : vm_rng (fun s => vm_chk bt_165 [] (vk_F_readOne s) 36 (vc_F_readOne s) 0 45 && (vm_ents 165 36 (vc_F_readOne s) (ve_F_readOne s) && vm_kok (vk_F_readOne s))) 90 1 = true := by decide +kernel
theorem vx_F_readOne_90 : vm_rng (fun s => vm_chk bt_165 [] (vk_F_readOne s) 36 (vc_F_readOne s) 0 45 && (vm_ents 165 36 (vc_F_readOne s) (ve_F_readOne s) && vm_kok (vk_F_readOne s))) 91 1 = true := by decide +kernel
theorem vx_F_readOne_91 : vm_rng (fun s => vm_chk bt_165 [] (vk_F_readOne s) 36 (vc_F_readOne s) 0 45 && (vm_ents 165 36 (vc_F_readOne s) (ve_F_readOne s) && vm_kok (vk_F_readOne s))) 92 1 = true := by decide +kernel
theorem vx_F_readOne_92 : vm_rng (fun s => vm_chk bt_165 [] (vk_F_readOne s) 36 (vc_F_readOne s) 0 45 && (vm_ents 165 36 (vc_F_readOne s) (ve_F_readOne s) && vm_kok (vk_F_readOne s))) 93 1 = true := by decide +kernel
theorem vx_F_readOne_93 : vm_rng (fun s => vm_chk bt_165 [] (vk_F_readOne s) 36 (vc_F_readOne s) 0 45 && (vm_ents 165 36 (vc_F_readOne s) (ve_F_readOne s) && vm_kok (vk_F_readOne s))) 94 1 = true := by decide +kernel
theorem vx_F_readOne_94 : vm_rng (fun s => vm_chk bt_165 [] (vk_F_readOne s) 36 (vc_F_readOne s) 0 45 && (vm_ents 165 36 (vc_F_readOne s) (ve_F_readOne s) && vm_kok (vk_F_readOne s))) 95 1 = true := by decide +kernel
theorem vx_F_readOne_95 : vm_rng (fun s => vm_chk bt_165 [] (vk_F_readOne s) 36 (vc_F_readOne s) 0 45 && (vm_ents 165 36 (vc_F_readOne s) (ve_F_readOne s) && vm_kok (vk_F_readOne s))) 96 1 = true := by decide +kernel
theorem vx_F_readOne_96 : vm_rng (fun s => vm_chk bt_165 [] (vk_F_readOne s) 36 (vc_F_readOne s) 0 45 && (vm_ents 165 36 (vc_F_readOne s) (ve_F_readOne s) && vm_kok (vk_F_readOne s))) 97 1 = true := by decide +kernel
theorem vx_F_readOne_97 : vm_rng (fun s => vm_chk bt_165 [] (vk_F_readOne s) 36 (vc_F_readOne s) 0 45 && (vm_ents 165 36 (vc_F_readOne s) (ve_F_readOne s) && vm_kok (vk_F_readOne s))) 98 1 = true := by decide +kernel
theorem vx_F_readOne_98 : vm_rng (fun s => vm_chk bt_165 [] (vk_F_readOne s) 36 (vc_F_readOne s) 0 45 && (vm_ents 165 36 (vc_F_readOne s) (ve_F_readOne s) && vm_kok (vk_F_readOne s))) 99 1 = true := by decide +kernel
theorem vx_F_readOne_99 : vm_rng (fun s => vm_chk bt_165 [] (vk_F_readOne s) 36 (vc_F_readOne s) 0 45 && (vm_ents 165 36 (vc_F_readOne s) (ve_F_readOne s) && vm_kok (vk_F_readOne s))) 100 1 = true := by decide +kernel
theorem vx_F_readOne_100 : vm_rng (fun s => vm_chk bt_165 [] (vk_F_readOne s) 36 (vc_F_readOne s) 0 45 && (vm_ents 165 36 (vc_F_readOne s) (ve_F_readOne s) && vm_kok (vk_F_readOne s))) 101 1 = true := by decide +kernel
theorem vx_F_readOne_101 : vm_rng (fun s => vm_chk bt_165 [] (vk_F_readOne s) 36 (vc_F_readOne s) 0 45 && (vm_ents 165 36 (vc_F_readOne s) (ve_F_readOne s) && vm_kok (vk_F_readOne s))) 102 1 = true := by decide +kernel
theorem vx_F_readOne_102 : vm_rng (fun s => vm_chk bt_165 [] (vk_F_readOne s) 36 (vc_F_readOne s) 0 45 && (vm_ents 165 36 (vc_F_readOne s) (ve_F_readOne s) && vm_kok (vk_F_readOne s))) 103 1 = true := by decide +kernel
theorem vx_F_readOne_103 : vm_rng (fun s => vm_chk bt_165 [] (vk_F_readOne s) 36 (vc_F_readOne s) 0 45 && (vm_ents 165 36 (vc_F_readOne s) (ve_F_readOne s) && vm_kok (vk_F_readOne s))) 104 1 = true := by decide +kernel
theorem vx_F_readOne_104 : vm_rng (fun s => vm_chk bt_165 [] (vk_F_readOne s) 36 (vc_F_readOne s) 0 45 && (vm_ents 165 36 (vc_F_readOne s) (ve_F_readOne s) && vm_kok (vk_F_readOne s))) 105 1 = true := by decide +kernel
theorem vx_F_readOne_105 : vm_rng (fun s => vm_chk bt_165 [] (vk_F_readOne s) 36 (vc_F_readOne s) 0 45 && (vm_ents 165 36 (vc_F_readOne s) (ve_F_readOne s) && vm_kok (vk_F_readOne s))) 106 1 = true := by decide +kernel
theorem vx_F_readOne_106 : vm_rng (fun s => vm_chk bt_165 [] (vk_F_readOne s) 36 (vc_F_readOne s) 0 45 && (vm_ents 165 36 (vc_F_readOne s) (ve_F_readOne s) && vm_kok (vk_F_readOne s))) 107 1 = true := by decide +kernel
theorem vx_F_readOne_107 : vm_rng (fun s => vm_chk bt_165 [] (vk_F_readOne s) 36 (vc_F_readOne s) 0 45 && (vm_ents 165 36 (vc_F_readOne s) (ve_F_readOne s) && vm_kok (vk_F_readOne s))) 108 1 = true := by decide +kernel
theorem vx_F_readOne_108 : vm_rng (fun s => vm_chk bt_165 [] (vk_F_readOne s) 36 (vc_F_readOne s) 0 45 && (vm_ents 165 36 (vc_F_readOne s) (ve_F_readOne s) && vm_kok (vk_F_readOne s))) 109 1 = true := by decide +kernel
theorem vx_F_readOne_109 : vm_rng (fun s => vm_chk bt_165 [] (vk_F_readOne s) 36 (vc_F_readOne s) 0 45 && (vm_ents 165 36 (vc_F_readOne s) (ve_F_readOne s) && vm_kok (vk_F_readOne s))) 110 1 = true := by decide +kernel
theorem vx_F_readOne_110 : vm_rng (fun s => vm_chk bt_165 [] (vk_F_readOne s) 36 (vc_F_readOne s) 0 45 && (vm_ents 165 36 (vc_F_readOne s) (ve_F_readOne s) && vm_kok (vk_F_readOne s))) 111 1 = true := by decide +kernel
theorem vx_F_readOne_111 : vm_rng (fun s => vm_chk bt_165 [] (vk_F_readOne s) 36 (vc_F_readOne s) 0 45 && (vm_ents 165 36 (vc_F_readOne s) (ve_F_readOne s) && vm_kok (vk_F_readOne s))) 112 1 = true := by decide +kernel
theorem vx_F_readOne_112 : vm_rng (fun s => vm_chk bt_165 [] (vk_F_readOne s) 36 (vc_F_readOne s) 0 45 && (vm_ents 165 36 (vc_F_readOne s) (ve_F_readOne s) && vm_kok (vk_F_readOne s))) 113 1 = true := by decide +kernel
theorem vx_F_readOne_113 : vm_rng (fun s => vm_chk bt_165 [] (vk_F_readOne s) 36 (vc_F_readOne s) 0 45 && (vm_ents 165 36 (vc_F_readOne s) (ve_F_readOne s) && vm_kok (vk_F_readOne s))) 114 1 = true := by decide +kernel
theorem vx_F_readOne_114 : vm_rng (fun s => vm_chk bt_165 [] (vk_F_readOne s) 36 (vc_F_readOne s) 0 45 && (vm_ents 165 36 (vc_F_readOne s) (ve_F_readOne s) && vm_kok (vk_F_readOne s))) 115 1 = true := by decide +kernel
theorem vx_F_readOne_115 : vm_rng (fun s => vm_chk bt_165 [] (vk_F_readOne s) 36 (vc_F_readOne s) 0 45 && (vm_ents 165 36 (vc_F_readOne s) (ve_F_readOne s) && vm_kok (vk_F_readOne s))) 116 1 = true := by decide +kernel
theorem vx_F_readOne_116 : vm_rng (fun s => vm_chk bt_165 [] (vk_F_readOne s) 36 (vc_F_readOne s) 0 45 && (vm_ents 165 36 (vc_F_readOne s) (ve_F_readOne s) && vm_kok (vk_F_readOne s))) 117 1 = true := by decide +kernel
theorem vx_F_readOne_117 : vm_rng (fun s => vm_chk bt_165 [] (vk_F_readOne s) 36 (vc_F_readOne s) 0 45 && (vm_ents 165 36 (vc_F_readOne s) (ve_F_readOne s) && vm_kok (vk_F_readOne s))) 118 1 = true := by decide +kernel
theorem vx_F_readOne_118 : vm_rng (fun s => vm_chk bt_165 [] (vk_F_readOne s) 36 (vc_F_readOne s) 0 45 && (vm_ents 165 36 (vc_F_readOne s) (ve_F_readOne s) && vm_kok (vk_F_readOne s))) 119 1 = true := by decide +kernel
theorem vx_F_readOne_119 : vm_rng (fun s => vm_chk bt_165 [] (vk_F_readOne s) 36 (vc_F_readOne s) 0 45 && (vm_ents 165 36 (vc_F_readOne s) (ve_F_readOne s) && vm_kok (vk_F_readOne s))) 120 1 = true := by decide +kernel
theorem vx_F_readOne_120 : vm_rng (fun s => vm_chk bt_165 [] (vk_F_readOne s) 36 (vc_F_readOne s) 0 45 && (vm_ents 165 36 (vc_F_readOne s) (ve_F_readOne s) && vm_kok (vk_F_readOne s))) 121 1 = true := by decide +kernel
theorem vx_F_readOne_121 : vm_rng (fun s => vm_chk bt_165 [] (vk_F_readOne s) 36 (vc_F_readOne s) 0 45 && (vm_ents 165 36 (vc_F_readOne s) (ve_F_readOne s) && vm_kok (vk_F_readOne s))) 122 1 = true := by decide +kernel
theorem vx_F_readOne_122 : vm_rng (fun s => vm_chk bt_165 [] (vk_F_readOne s) 36 (vc_F_readOne s) 0 45 && (vm_ents 165 36 (vc_F_readOne s) (ve_F_readOne s) && vm_kok (vk_F_readOne s))) 123 1 = true := by decide +kernel
theorem vx_F_readOne_123 : vm_rng (fun s => vm_chk bt_165 [] (vk_F_readOne s) 36 (vc_F_readOne s) 0 45 && (vm_ents 165 36 (vc_F_readOne s) (ve_F_readOne s) && vm_kok (vk_F_readOne s))) 124 1 = true := by decide +kernel
theorem vx_F_readOne_124 : vm_rng (fun s => vm_chk bt_165 [] (vk_F_readOne s) 36 (vc_F_readOne s) 0 45 && (vm_ents 165 36 (vc_F_readOne s) (ve_F_readOne s) && vm_kok (vk_F_readOne s))) 125 1 = true := by decide +kernel
theorem vx_F_readOne_125 : vm_rng (fun s => vm_chk bt_165 [] (vk_F_readOne s) 36 (vc_F_readOne s) 0 45 && (vm_ents 165 36 (vc_F_readOne s) (ve_F_readOne s) && vm_kok (vk_F_readOne s))) 126 1 = true := by decide +kernel
theorem vx_F_readOne_126 : vm_rng (fun s => vm_chk bt_165 [] (vk_F_readOne s) 36 (vc_F_readOne s) 0 45 && (vm_ents 165 36 (vc_F_readOne s) (ve_F_readOne s) && vm_kok (vk_F_readOne s))) 127 1 = true := by decide +kernel
theorem vx_F_readOne_127 : vm_rng (fun s => vm_chk bt_165 [] (vk_F_readOne s) 36 (vc_F_readOne s) 0 45 && (vm_ents 165 36 (vc_F_readOne s) (ve_F_readOne s) && vm_kok (vk_F_readOne s))) 128 1 = true := by decide +kernel
theorem vx_F_readOne_128 : vm_rng (fun s => vm_chk bt_165 [] (vk_F_readOne s) 36 (vc_F_readOne s) 0 45 && (vm_ents 165 36 (vc_F_readOne s) (ve_F_readOne s) && vm_kok (vk_F_readOne s))) 129 1 = true := by decide +kernel
theorem vx_F_readOne_129 : vm_rng (fun s => vm_chk bt_165 [] (vk_F_readOne s) 36 (vc_F_readOne s) 0 45 && (vm_ents 165 36 (vc_F_readOne s) (ve_F_readOne s) && vm_kok (vk_F_readOne s))) 130 1 = true := by decide +kernel
theorem vx_F_readOne_130 : vm_rng (fun s => vm_chk bt_165 [] (vk_F_readOne s) 36 (vc_F_readOne s) 0 45 && (vm_ents 165 36 (vc_F_readOne s) (ve_F_readOne s) && vm_kok (vk_F_readOne s))) 131 1 = true := by decide +kernel
theorem vx_F_readOne_131 : vm_rng (fun s => vm_chk bt_165 [] (vk_F_readOne s) 36 (vc_F_readOne s) 0 45 && (vm_ents 165 36 (vc_F_readOne s) (ve_F_readOne s) && vm_kok (vk_F_readOne s))) 132 1 = true := by decide +kernel
theorem vx_F_readOne_132 : vm_rng (fun s => vm_chk bt_165 [] (vk_F_readOne s) 36 (vc_F_readOne s) 0 45 && (vm_ents 165 36 (vc_F_readOne s) (ve_F_readOne s) && vm_kok (vk_F_readOne s))) 133 1 = true := by decide +kernel
theorem vx_F_readOne_133 : vm_rng (fun s => vm_chk bt_165 [] (vk_F_readOne s) 36 (vc_F_readOne s) 0 45 && (vm_ents 165 36 (vc_F_readOne s) (ve_F_readOne s) && vm_kok (vk_F_readOne s))) 134 1 = true := by decide +kernel
theorem vx_F_readOne_134 : vm_rng (fun s => vm_chk bt_165 [] (vk_F_readOne s) 36 (vc_F_readOne s) 0 45 && (vm_ents 165 36 (vc_F_readOne s) (ve_F_readOne s) && vm_kok (vk_F_readOne s))) 135 1 = true := by decide +kernel
theorem vx_F_readOne_135 : vm_rng (fun s => vm_chk bt_165 [] (vk_F_readOne s) 36 (vc_F_readOne s) 0 45 && (vm_ents 165 36 (vc_F_readOne s) (ve_F_readOne s) && vm_kok (vk_F_readOne s))) 136 1 = true := by decide +kernel
theorem vx_F_readOne_136 : vm_rng (fun s => vm_chk bt_165 [] (vk_F_readOne s) 36 (vc_F_readOne s) 0 45 && (vm_ents 165 36 (vc_F_readOne s) (ve_F_readOne s) && vm_kok (vk_F_readOne s))) 137 1 = true := by decide +kernel
theorem vx_F_readOne_137 : vm_rng (fun s => vm_chk bt_165 [] (vk_F_readOne s) 36 (vc_F_readOne s) 0 45 && (vm_ents 165 36 (vc_F_readOne s) (ve_F_readOne s) && vm_kok (vk_F_readOne s))) 138 1 = true := by decide +kernel
theorem vx_F_readOne_138 : vm_rng (fun s => vm_chk bt_165 [] (vk_F_readOne s) 36 (vc_F_readOne s) 0 45 && (vm_ents 165 36 (vc_F_readOne s) (ve_F_readOne s) && vm_kok (vk_F_readOne s))) 139 1 = true := by decide +kernel
theorem vx_F_readOne_139 : vm_rng (fun s => vm_chk bt_165 [] (vk_F_readOne s) 36 (vc_F_readOne s) 0 45 && (vm_ents 165 36 (vc_F_readOne s) (ve_F_readOne s) && vm_kok (vk_F_readOne s))) 140 1 = true := by decide +kernel
theorem vx_F_readOne_140 : vm_rng (fun s => vm_chk bt_165 [] (vk_F_readOne s) 36 (vc_F_readOne s) 0 45 && (vm_ents 165 36 (vc_F_readOne s) (ve_F_readOne s) && vm_kok (vk_F_readOne s))) 141 1 = true := by decide +kernel
theorem vx_F_readOne_141 : vm_rng (fun s => vm_chk bt_165 [] (vk_F_readOne s) 36 (vc_F_readOne s) 0 45 && (vm_ents 165 36 (vc_F_readOne s) (ve_F_readOne s) && vm_kok (vk_F_readOne s))) 142 1 = true := by decide +kernel
theorem vx_F_readOne_142 : vm_rng (fun s => vm_chk bt_165 [] (vk_F_readOne s) 36 (vc_F_readOne s) 0 45 && (vm_ents 165 36 (vc_F_readOne s) (ve_F_readOne s) && vm_kok (vk_F_readOne s))) 143 1 = true := by decide +kernel
theorem vx_F_readOne_143 : vm_rng (fun s => vm_chk bt_165 [] (vk_F_readOne s) 36 (vc_F_readOne s) 0 45 && (vm_ents 165 36 (vc_F_readOne s) (ve_F_readOne s) && vm_kok (vk_F_readOne s))) 144 1 = true := by decide +kernel
theorem vx_F_readOne_144 : vm_rng (fun s => vm_chk bt_165 [] (vk_F_readOne s) 36 (vc_F_readOne s) 0 45 && (vm_ents 165 36 (vc_F_readOne s) (ve_F_readOne s) && vm_kok (vk_F_readOne s))) 145 1 = true := by decide +kernel
theorem vx_F_readOne_145 : vm_rng (fun s => vm_chk bt_165 [] (vk_F_readOne s) 36 (vc_F_readOne s) 0 45 && (vm_ents 165 36 (vc_F_readOne s) (ve_F_readOne s) && vm_kok (vk_F_readOne s))) 146 1 = true := by decide +kernel
theorem vx_F_readOne_146 : vm_rng (fun s => vm_chk bt_165 [] (vk_F_readOne s) 36 (vc_F_readOne s) 0 45 && (vm_ents 165 36 (vc_F_readOne s) (ve_F_readOne s) && vm_kok (vk_F_readOne s))) 147 1 = true := by decide +kernel
theorem vx_F_readOne_147 : vm_rng (fun s => vm_chk bt_165 [] (vk_F_readOne s) 36 (vc_F_readOne s) 0 45 && (vm_ents 165 36 (vc_F_readOne s) (ve_F_readOne s) && vm_kok (vk_F_readOne s))) 148 1 = true := by decide +kernel
theorem vx_F_readOne_148 : vm_rng (fun s => vm_chk bt_165 [] (vk_F_readOne s) 36 (vc_F_readOne s) 0 45 && (vm_ents 165 36 (vc_F_readOne s) (ve_F_readOne s) && vm_kok (vk_F_readOne s))) 149 1 = true := by decide +kernel
theorem vx_F_readOne_149 : vm_rng (fun s => vm_chk bt_165 [] (vk_F_readOne s) 36 (vc_F_readOne s) 0 45 && (vm_ents 165 36 (vc_F_readOne s) (ve_F_readOne s) && vm_kok (vk_F_readOne s))) 150 1 = true := by decide +kernel
theorem vx_F_readOne_150 : vm_rng (fun s => vm_chk bt_165 [] (vk_F_readOne s) 36 (vc_F_readOne s) 0 45 && (vm_ents 165 36 (vc_F_readOne s) (ve_F_readOne s) && vm_kok (vk_F_readOne s))) 151 1 = true := by decide +kernel
theorem vx_F_readOne_151 : vm_rng (fun s => vm_chk bt_165 [] (vk_F_readOne s) 36 (vc_F_readOne s) 0 45 && (vm_ents 165 36 (vc_F_readOne s) (ve_F_readOne s) && vm_kok (vk_F_readOne s))) 152 1 = true := by decide +kernel
theorem vx_F_readOne_152 : vm_rng (fun s => vm_chk bt_165 [] (vk_F_readOne s) 36 (vc_F_readOne s) 0 45 && (vm_ents 165 36 (vc_F_readOne s) (ve_F_readOne s) && vm_kok (vk_F_readOne s))) 153 1 = true := by decide +kernel
theorem vx_F_readOne_153 : vm_rng (fun s => vm_chk bt_165 [] (vk_F_readOne s) 36 (vc_F_readOne s) 0 45 && (vm_ents 165 36 (vc_F_readOne s) (ve_F_readOne s) && vm_kok (vk_F_readOne s))) 154 1 = true := by decide +kernel
theorem vx_F_readOne_154 : vm_rng (fun s => vm_chk bt_165 [] (vk_F_readOne s) 36 (vc_F_readOne s) 0 45 && (vm_ents 165 36 (vc_F_readOne s) (ve_F_readOne s) && vm_kok (vk_F_readOne s))) 155 1 = true := by decide +kernel
theorem vx_F_readOne_155 : vm_rng (fun s => vm_chk bt_165 [] (vk_F_readOne s) 36 (vc_F_readOne s) 0 45 && (vm_ents 165 36 (vc_F_readOne s) (ve_F_readOne s) && vm_kok (vk_F_readOne s))) 156 1 = true := by decide +kernel
theorem vx_F_readOne_156 : vm_rng (fun s => vm_chk bt_165 [] (vk_F_readOne s) 36 (vc_F_readOne s) 0 45 && (vm_ents 165 36 (vc_F_readOne s) (ve_F_readOne s) && vm_kok (vk_F_readOne s))) 157 1 = true := by decide +kernel
set_option maxRecDepth 20000 in
theorem vz_F_readOne (s : Nat) (h1 : 1 ≤ s) (h2 : s < 158) : (vm_chk bt_165 [] (vk_F_readOne s) 36 (vc_F_readOne s) 0 45 && (vm_ents 165 36 (vc_F_readOne s) (ve_F_readOne s) && vm_kok (vk_F_readOne s))) = true := by
  by_cases g0 : s < 2
  · exact vm_rng_ok vx_F_readOne_0 s (by omega) (by omega)
  by_cases g1 : s < 3
  · exact vm_rng_ok vx_F_readOne_1 s (by omega) (by omega)
  by_cases g2 : s < 4
  · exact vm_rng_ok vx_F_readOne_2 s (by omega) (by omega)
  by_cases g3 : s < 5
  · exact vm_rng_ok vx_F_readOne_3 s (by omega) (by omega)
  by_cases g4 : s < 6
  · exact vm_rng_ok vx_F_readOne_4 s (by omega) (by omega)
  by_cases g5 : s < 7
  · exact vm_rng_ok vx_F_readOne_5 s (by omega) (by omega)
  by_cases g6 : s < 8
  · exact vm_rng_ok vx_F_readOne_6 s (by omega) (by omega)
  by_cases g7 : s < 9
  · exact vm_rng_ok vx_F_readOne_7 s (by omega) (by omega)
  by_cases g8 : s < 10
  · exact vm_rng_ok vx_F_readOne_8 s (by omega) (by omega)
  by_cases g9 : s < 11
  · exact vm_rng_ok vx_F_readOne_9 s (by omega) (by omega)
  by_cases g10 : s < 12
  · exact vm_rng_ok vx_F_readOne_10 s (by omega) (by omega)
  by_cases g11 : s < 13
  · exact vm_rng_ok vx_F_readOne_11 s (by omega) (by omega)
  by_cases g12 : s < 14
  · exact vm_rng_ok vx_F_readOne_12 s (by omega) (by omega)
  by_cases g13 : s < 15
  · exact vm_rng_ok vx_F_readOne_13 s (by omega) (by omega)
  by_cases g14 : s < 16
  · exact vm_rng_ok vx_F_readOne_14 s (by omega) (by omega)
  by_cases g15 : s < 17
  · exact vm_rng_ok vx_F_readOne_15 s (by omega) (by omega)
  by_cases g16 : s < 18
  · exact vm_rng_ok vx_F_readOne_16 s (by omega) (by omega)
  by_cases g17 : s < 19
  · exact vm_rng_ok vx_F_readOne_17 s (by omega) (by omega)
  by_cases g18 : s < 20
  · exact vm_rng_ok vx_F_readOne_18 s (by omega) (by omega)
  by_cases g19 : s < 21
  · exact vm_rng_ok vx_F_readOne_19 s (by omega) (by omega)
  by_cases g20 : s < 22
  · exact vm_rng_ok vx_F_readOne_20 s (by omega) (by omega)
  by_cases g21 : s < 23
  · exact vm_rng_ok vx_F_readOne_21 s (by omega) (by omega)
  by_cases g22 : s < 24
  · exact vm_rng_ok vx_F_readOne_22 s (by omega) (by omega)
  by_cases g23 : s < 25
  · exact vm_rng_ok vx_F_readOne_23 s (by omega) (by omega)
  by_cases g24 : s < 26
  · exact vm_rng_ok vx_F_readOne_24 s (by omega) (by omega)
  by_cases g25 : s < 27
  · exact vm_rng_ok vx_F_readOne_25 s (by omega) (by omega)
  by_cases g26 : s < 28
  · exact vm_rng_ok vx_F_readOne_26 s (by omega) (by omega)
  by_cases g27 : s < 29
  · exact vm_rng_ok vx_F_readOne_27 s (by omega) (by omega)
  by_cases g28 : s < 30
  · exact vm_rng_ok vx_F_readOne_28 s (by omega) (by omega)
  by_cases g29 : s < 31
  · exact vm_rng_ok vx_F_readOne_29 s (by omega) (by omega)
  by_cases g30 : s < 32
  · exact vm_rng_ok vx_F_readOne_30 s (by omega) (by omega)
  by_cases g31 : s < 33
  · exact vm_rng_ok vx_F_readOne_31 s (by omega) (by omega)
  by_cases g32 : s < 34
  · exact vm_rng_ok vx_F_readOne_32 s (by omega) (by omega)
  by_cases g33 : s < 35
  · exact vm_rng_ok vx_F_readOne_33 s (by omega) (by omega)
  by_cases g34 : s < 36
  · exact vm_rng_ok vx_F_readOne_34 s (by omega) (by omega)
  by_cases g35 : s < 37
  · exact vm_rng_ok vx_F_readOne_35 s (by omega) (by omega)
  by_cases g36 : s < 38
  · exact vm_rng_ok vx_F_readOne_36 s (by omega) (by omega)
  by_cases g37 : s < 39
  · exact vm_rng_ok vx_F_readOne_37 s (by omega) (by omega)
  by_cases g38 : s < 40
  · exact vm_rng_ok vx_F_readOne_38 s (by omega) (by omega)
  by_cases g39 : s < 41
  · exact vm_rng_ok vx_F_readOne_39 s (by omega) (by omega)
  by_cases g40 : s < 42
  · exact vm_rng_ok vx_F_readOne_40 s (by omega) (by omega)
  by_cases g41 : s < 43
  · exact vm_rng_ok vx_F_readOne_41 s (by omega) (by omega)
  by_cases g42 : s < 44
  · exact vm_rng_ok vx_F_readOne_42 s (by omega) (by omega)
  by_cases g43 : s < 45
  · exact vm_rng_ok vx_F_readOne_43 s (by omega) (by omega)
  by_cases g44 : s < 46
  · exact vm_rng_ok vx_F_readOne_44 s (by omega) (by omega)
  by_cases g45 : s < 47
  · exact vm_rng_ok vx_F_readOne_45 s (by omega) (by omega)
  by_cases g46 : s < 48
  · exact vm_rng_ok vx_F_readOne_46 s (by omega) (by omega)
  by_cases g47 : s < 49
  · exact vm_rng_ok vx_F_readOne_47 s (by omega) (by omega)
  by_cases g48 : s < 50
  · exact vm_rng_ok vx_F_readOne_48 s (by omega) (by omega)
  by_cases g49 : s < 51
  · exact vm_rng_ok vx_F_readOne_49 s (by omega) (by omega)
  by_cases g50 : s < 52
  · exact vm_rng_ok vx_F_readOne_50 s (by omega) (by omega)
  by_cases g51 : s < 53
  · exact vm_rng_ok vx_F_readOne_51 s (by omega) (by omega)
  by_cases g52 : s < 54
  · exact vm_rng_ok vx_F_readOne_52 s (by omega) (by omega)
  by_cases g53 : s < 55
  · exact vm_rng_ok vx_F_readOne_53 s (by omega) (by omega)
  by_cases g54 : s < 56
  · exact vm_rng_ok vx_F_readOne_54 s (by omega) (by omega)
  by_cases g55 : s < 57
  · exact vm_rng_ok vx_F_readOne_55 s (by omega) (by omega)
  by_cases g56 : s < 58
  · exact vm_rng_ok vx_F_readOne_56 s (by omega) (by omega)
  by_cases g57 : s < 59
  · exact vm_rng_ok vx_F_readOne_57 s (by omega) (by omega)
  by_cases g58 : s < 60
  · exact vm_rng_ok vx_F_readOne_58 s (by omega) (by omega)
  by_cases g59 : s < 61
  · exact vm_rng_ok vx_F_readOne_59 s (by omega) (by omega)
  by_cases g60 : s < 62
  · exact vm_rng_ok vx_F_readOne_60 s (by omega) (by omega)
  by_cases g61 : s < 63
  · exact vm_rng_ok vx_F_readOne_61 s (by omega) (by omega)
  by_cases g62 : s < 64
  · exact vm_rng_ok vx_F_readOne_62 s (by omega) (by omega)
  by_cases g63 : s < 65
  · exact vm_rng_ok vx_F_readOne_63 s (by omega) (by omega)
  by_cases g64 : s < 66
  · exact vm_rng_ok vx_F_readOne_64 s (by omega) (by omega)
  by_cases g65 : s < 67
  · exact vm_rng_ok vx_F_readOne_65 s (by omega) (by omega)
  by_cases g66 : s < 68
  · exact vm_rng_ok vx_F_readOne_66 s (by omega) (by omega)
  by_cases g67 : s < 69
  · exact vm_rng_ok vx_F_readOne_67 s (by omega) (by omega)
  by_cases g68 : s < 70
  · exact vm_rng_ok vx_F_readOne_68 s (by omega) (by omega)
  by_cases g69 : s < 71
  · exact vm_rng_ok vx_F_readOne_69 s (by omega) (by omega)
  by_cases g70 : s < 72
  · exact vm_rng_ok vx_F_readOne_70 s (by omega) (by omega)
  by_cases g71 : s < 73
  · exact vm_rng_ok vx_F_readOne_71 s (by omega) (by omega)
  by_cases g72 : s < 74
  · exact vm_rng_ok vx_F_readOne_72 s (by omega) (by omega)
  by_cases g73 : s < 75
  · exact vm_rng_ok vx_F_readOne_73 s (by omega) (by omega)
  by_cases g74 : s < 76
  · exact vm_rng_ok vx_F_readOne_74 s (by omega) (by omega)
  by_cases g75 : s < 77
  · exact vm_rng_ok vx_F_readOne_75 s (by omega) (by omega)
  by_cases g76 : s < 78
  · exact vm_rng_ok vx_F_readOne_76 s (by omega) (by omega)
  by_cases g77 : s < 79
  · exact vm_rng_ok vx_F_readOne_77 s (by omega) (by omega)
  by_cases g78 : s < 80
  · exact vm_rng_ok vx_F_readOne_78 s (by omega) (by omega)
  by_cases g79 : s < 81
  · exact vm_rng_ok vx_F_readOne_79 s (by omega) (by omega)
  by_cases g80 : s < 82
  · exact vm_rng_ok vx_F_readOne_80 s (by omega) (by omega)
  by_cases g81 : s < 83
  · exact vm_rng_ok vx_F_readOne_81 s (by omega) (by omega)
  by_cases g82 : s < 84
  · exact vm_rng_ok vx_F_readOne_82 s (by omega) (by omega)
  by_cases g83 : s < 85
  · exact vm_rng_ok vx_F_readOne_83 s (by omega) (by omega)
  by_cases g84 : s < 86
  · exact vm_rng_ok vx_F_readOne_84 s (by omega) (by omega)
  by_cases g85 : s < 87
  · exact vm_rng_ok vx_F_readOne_85 s (by omega) (by omega)
  by_cases g86 : s < 88
  · exact vm_rng_ok vx_F_readOne_86 s (by omega) (by omega)
  by_cases g87 : s < 89
  · exact vm_rng_ok vx_F_readOne_87 s (by omega) (by omega)
  by_cases g88 : s < 90
  · exact vm_rng_ok vx_F_readOne_88 s (by omega) (by omega)
  by_cases g89 : s < 91
  · exact vm_rng_ok vx_F_readOne_89 s (by omega) (by omega)
  by_cases g90 : s < 92
  · exact vm_rng_ok vx_F_readOne_90 s (by omega) (by omega)
  by_cases g91 : s < 93
  · exact vm_rng_ok vx_F_readOne_91 s (by omega) (by omega)
  by_cases g92 : s < 94
  · exact vm_rng_ok vx_F_readOne_92 s (by omega) (by omega)
  by_cases g93 : s < 95
  · exact vm_rng_ok vx_F_readOne_93 s (by omega) (by omega)
  by_cases g94 : s < 96
  · exact vm_rng_ok vx_F_readOne_94 s (by omega) (by omega)
  by_cases g95 : s < 97
  · exact vm_rng_ok vx_F_readOne_95 s (by omega) (by omega)
  by_cases g96 : s < 98
  · exact vm_rng_ok vx_F_readOne_96 s (by omega) (by omega)
  by_cases g97 : s < 99
  · exact vm_rng_ok vx_F_readOne_97 s (by omega) (by omega)
  by_cases g98 : s < 100
  · exact vm_rng_ok vx_F_readOne_98 s (by omega) (by omega)
  by_cases g99 : s < 101
  · exact vm_rng_ok vx_F_readOne_99 s (by omega) (by omega)
  by_cases g100 : s < 102
  · exact vm_rng_ok vx_F_readOne_100 s (by omega) (by omega)
  by_cases g101 : s < 103
  · exact vm_rng_ok vx_F_readOne_101 s (by omega) (by omega)
  by_cases g102 : s < 104
  · exact vm_rng_ok vx_F_readOne_102 s (by omega) (by omega)
  by_cases g103 : s < 105
  · exact vm_rng_ok vx_F_readOne_103 s (by omega) (by omega)
  by_cases g104 : s < 106
  · exact vm_rng_ok vx_F_readOne_104 s (by omega) (by omega)
  by_cases g105 : s < 107
  · exact vm_rng_ok vx_F_readOne_105 s (by omega) (by omega)
  by_cases g106 : s < 108
  · exact vm_rng_ok vx_F_readOne_106 s (by omega) (by omega)
  by_cases g107 : s < 109
  · exact vm_rng_ok vx_F_readOne_107 s (by omega) (by omega)
  by_cases g108 : s < 110
  · exact vm_rng_ok vx_F_readOne_108 s (by omega) (by omega)
  by_cases g109 : s < 111
  · exact vm_rng_ok vx_F_readOne_109 s (by omega) (by omega)
  by_cases g110 : s < 112
  · exact vm_rng_ok vx_F_readOne_110 s (by omega) (by omega)
  by_cases g111 : s < 113
  · exact vm_rng_ok vx_F_readOne_111 s (by omega) (by omega)
  by_cases g112 : s < 114
  · exact vm_rng_ok vx_F_readOne_112 s (by omega) (by omega)
  by_cases g113 : s < 115
  · exact vm_rng_ok vx_F_readOne_113 s (by omega) (by omega)
  by_cases g114 : s < 116
  · exact vm_rng_ok vx_F_readOne_114 s (by omega) (by omega)
  by_cases g115 : s < 117
  · exact vm_rng_ok vx_F_readOne_115 s (by omega) (by omega)
  by_cases g116 : s < 118
  · exact vm_rng_ok vx_F_readOne_116 s (by omega) (by omega)
  by_cases g117 : s < 119
  · exact vm_rng_ok vx_F_readOne_117 s (by omega) (by omega)
  by_cases g118 : s < 120
  · exact vm_rng_ok vx_F_readOne_118 s (by omega) (by omega)
  by_cases g119 : s < 121
  · exact vm_rng_ok vx_F_readOne_119 s (by omega) (by omega)
  by_cases g120 : s < 122
  · exact vm_rng_ok vx_F_readOne_120 s (by omega) (by omega)
  by_cases g121 : s < 123
  · exact vm_rng_ok vx_F_readOne_121 s (by omega) (by omega)
  by_cases g122 : s < 124
  · exact vm_rng_ok vx_F_readOne_122 s (by omega) (by omega)
  by_cases g123 : s < 125
  · exact vm_rng_ok vx_F_readOne_123 s (by omega) (by omega)
  by_cases g124 : s < 126
  · exact vm_rng_ok vx_F_readOne_124 s (by omega) (by omega)
  by_cases g125 : s < 127
  · exact vm_rng_ok vx_F_readOne_125 s (by omega) (by omega)
  by_cases g126 : s < 128
  · exact vm_rng_ok vx_F_readOne_126 s (by omega) (by omega)
  by_cases g127 : s < 129
  · exact vm_rng_ok vx_F_readOne_127 s (by omega) (by omega)
  by_cases g128 : s < 130
  · exact vm_rng_ok vx_F_readOne_128 s (by omega) (by omega)
  by_cases g129 : s < 131
  · exact vm_rng_ok vx_F_readOne_129 s (by omega) (by omega)
  by_cases g130 : s < 132
  · exact vm_rng_ok vx_F_readOne_130 s (by omega) (by omega)
  by_cases g131 : s < 133
  · exact vm_rng_ok vx_F_readOne_131 s (by omega) (by omega)
  by_cases g132 : s < 134
  · exact vm_rng_ok vx_F_readOne_132 s (by omega) (by omega)
  by_cases g133 : s < 135
  · exact vm_rng_ok vx_F_readOne_133 s (by omega) (by omega)
  by_cases g134 : s < 136
  · exact vm_rng_ok vx_F_readOne_134 s (by omega) (by omega)
  by_cases g135 : s < 137
  · exact vm_rng_ok vx_F_readOne_135 s (by omega) (by omega)
  by_cases g136 : s < 138
  · exact vm_rng_ok vx_F_readOne_136 s (by omega) (by omega)
  by_cases g137 : s < 139
  · exact vm_rng_ok vx_F_readOne_137 s (by omega) (by omega)
  by_cases g138 : s < 140
  · exact vm_rng_ok vx_F_readOne_138 s (by omega) (by omega)
  by_cases g139 : s < 141
  · exact vm_rng_ok vx_F_readOne_139 s (by omega) (by omega)
  by_cases g140 : s < 142
  · exact vm_rng_ok vx_F_readOne_140 s (by omega) (by omega)
  by_cases g141 : s < 143
  · exact vm_rng_ok vx_F_readOne_141 s (by omega) (by omega)
  by_cases g142 : s < 144
  · exact vm_rng_ok vx_F_readOne_142 s (by omega) (by omega)
  by_cases g143 : s < 145
  · exact vm_rng_ok vx_F_readOne_143 s (by omega) (by omega)
  by_cases g144 : s < 146
  · exact vm_rng_ok vx_F_readOne_144 s (by omega) (by omega)
  by_cases g145 : s < 147
  · exact vm_rng_ok vx_F_readOne_145 s (by omega) (by omega)
  by_cases g146 : s < 148
  · exact vm_rng_ok vx_F_readOne_146 s (by omega) (by omega)
  by_cases g147 : s < 149
  · exact vm_rng_ok vx_F_readOne_147 s (by omega) (by omega)
  by_cases g148 : s < 150
  · exact vm_rng_ok vx_F_readOne_148 s (by omega) (by omega)
  by_cases g149 : s < 151
  · exact vm_rng_ok vx_F_readOne_149 s (by omega) (by omega)
  by_cases g150 : s < 152
  · exact vm_rng_ok vx_F_readOne_150 s (by omega) (by omega)
  by_cases g151 : s < 153
  · exact vm_rng_ok vx_F_readOne_151 s (by omega) (by omega)
  by_cases g152 : s < 154
  · exact vm_rng_ok vx_F_readOne_152 s (by omega) (by omega)
  by_cases g153 : s < 155
  · exact vm_rng_ok vx_F_readOne_153 s (by omega) (by omega)
  by_cases g154 : s < 156
  · exact vm_rng_ok vx_F_readOne_154 s (by omega) (by omega)
  by_cases g155 : s < 157
  · exact vm_rng_ok vx_F_readOne_155 s (by omega) (by omega)
  exact vm_rng_ok vx_F_readOne_156 s (by omega) (by omega)
theorem v_F_readOne (s : Nat) (h1 : 1 ≤ s) (h2 : s < 158) : vm_at 5 (q_F_readOne s) := by
  have h := vz_F_readOne s h1 h2
  rw [Bool.and_eq_true, Bool.and_eq_true] at h
  exact vm_ok (inl := []) (es := ve_F_readOne s) bq_165 (by decide) (vm_wts (L := 4) (vm_kc (vm_up v_922 rfl) (vm_kc (vm_up (v_F_rn_0_3 (s + 1) (by omega) (by omega)) rfl) (vm_kc (vm_up (v_F_rn_0_3 (s + 0) (by omega) (by omega)) rfl) (vm_kc (vm_up (v_F_readFree (s + 0) (by omega) (by omega)) rfl) vm_kn)))) h.2.2) h.2.1 (fun i => vm_hc h.1 rfl (fun h => absurd h (Nat.not_lt_zero _))) _ List.mem_cons_self
noncomputable def vp_940 : List vm_R := [(none, va_h342), (none, va_h168)]
noncomputable def ve_940 : List vm_E := [([.inr (.inr (some 70))], va_h340, 0, [0])]
noncomputable def q_940 : vm_Q := (163, [.inr (.inr (some 70))], va_h340, vp_940)
noncomputable def vk_940 : List vm_U := [((qj_898 160), false, [(7, 62, 6), (7, 62, 7)]), (q_899, false, []), (q_842, false, [(7, 62, 14)]), (q_844, false, [(7, 62, 14)]), (q_921, false, []), (q_936, false, [(7, 62, 6), (7, 62, 7)]), (q_871, false, [(7, 62, 14), (7, 62, 17)])]
noncomputable def vf_940 : List ((Nat → am_I) → vm_A) := [fun v => (0, [(0, .inr (.inr (some 70)))], [], (80, [(62, va_c225)])), fun v => (7, [(0, .inr (.inr (some 70))), (1, .inl (v 0))], [], (80, [(62, .inr (.inr (.inr (7, [.inr (.inr (some 71)), .inr (.inr (some 72)), .inl (.ofNat 2, .ofNat 5), .inl (.ofNat 2, .ofNat 5), .inl (.ofNat 0, .ofNat 5), .inr (.inr (some 73)), .inl (v 1), .inl (v 2), .inl (.ofNat 0, .ofNat 5), .inl am_top, .inl am_top, .inl am_top, .inr (.inr (some 74)), .inl (.ofNat 0, .ofNat 160), .inl (.ofNat 160, .ofNat 160), .inl (.ofNat 0, .ofNat 160), .inl (.ofNat 0, .ofNat 3), .inl am_top, .inl (v 3), .inl am_top, .inr (.inr (some 75)), .inr (.inr (some 76)), .inr (.inr (some 77)), .inr (.inr (some 78)), .inr (.inr (some 79)), .inr (.inr (some 80)), .inr (.inr (some 81)), .inl (.negSucc 0, .ofNat 6), .inr (.inr (some 82)), .inr (.inr (some 83)), .inr (.inr (some 84)), .inr (.inr (some 85)), .inr (.inr (some 86)), .inl am_top, .inr (.inr (some 87))]))))])), fun v => (38, [(0, .inr (.inr (some 70))), (1, .inl (v 0))], [], (80, [(62, .inr (.inr (.inr (7, [.inr (.inr (some 71)), .inr (.inr (some 72)), .inl (.ofNat 2, .ofNat 5), .inl (.ofNat 2, .ofNat 5), .inl (.ofNat 0, .ofNat 5), .inr (.inr (some 73)), .inl (v 1), .inl (v 2), .inl (.ofNat 0, .ofNat 5), .inl am_top, .inl am_top, .inl am_top, .inr (.inr (some 74)), .inl (.ofNat 0, .ofNat 160), .inl (.ofNat 160, .ofNat 160), .inl (.ofNat 0, .ofNat 160), .inl (.ofNat 0, .ofNat 3), .inl am_top, .inl (v 3), .inl am_top, .inr (.inr (some 75)), .inr (.inr (some 76)), .inr (.inr (some 77)), .inr (.inr (some 78)), .inr (.inr (some 79)), .inr (.inr (some 80)), .inr (.inr (some 81)), .inl (.negSucc 0, .ofNat 6), .inr (.inr (some 82)), .inr (.inr (some 83)), .inr (.inr (some 84)), .inr (.inr (some 85)), .inr (.inr (some 86)), .inl am_top, .inr (.inr (some 87))]))))])), fun v => (42, [(0, .inr (.inr (some 70))), (1, .inl (v 0))], [], (80, [(62, .inr (.inr (.inr (7, [.inr (.inr (some 71)), .inr (.inr (some 72)), .inl (.ofNat 2, .ofNat 5), .inl (.ofNat 2, .ofNat 5), .inl (.ofNat 0, .ofNat 5), .inr (.inr (some 73)), .inl (v 1), .inl (v 2), .inl (.ofNat 0, .ofNat 5), .inl am_top, .inl am_top, .inl am_top, .inr (.inr (some 74)), .inl (.ofNat 0, .ofNat 160), .inl (v 3), .inl (.ofNat 0, .ofNat 160), .inl (v 4), .inl am_top, .inl (v 5), .inl am_top, .inr (.inr (some 75)), .inr (.inr (some 76)), .inr (.inr (some 77)), .inr (.inr (some 78)), .inr (.inr (some 79)), .inr (.inr (some 80)), .inr (.inr (some 81)), .inl (.negSucc 0, .ofNat 6), .inr (.inr (some 82)), .inr (.inr (some 83)), .inr (.inr (some 84)), .inr (.inr (some 85)), .inr (.inr (some 86)), .inl am_top, .inr (.inr (some 87))]))))])), fun v => (50, [(0, .inr (.inr (some 70))), (1, .inl (v 0)), (2, .inl (.ofNat 0, .ofNat 24))], [], (80, [(62, .inr (.inr (.inr (7, [.inr (.inr (some 71)), .inr (.inr (some 72)), .inl (.ofNat 2, .ofNat 5), .inl (.ofNat 2, .ofNat 5), .inl (.ofNat 0, .ofNat 5), .inr (.inr (some 73)), .inl (v 1), .inl (v 2), .inl (.ofNat 0, .ofNat 5), .inl am_top, .inl am_top, .inl am_top, .inr (.inr (some 74)), .inl (.ofNat 0, .ofNat 160), .inl (v 3), .inl (.ofNat 0, .ofNat 160), .inl (v 4), .inl am_top, .inl (v 5), .inl am_top, .inr (.inr (some 75)), .inr (.inr (some 76)), .inr (.inr (some 77)), .inr (.inr (some 78)), .inr (.inr (some 79)), .inr (.inr (some 80)), .inr (.inr (some 81)), .inl (.negSucc 0, .ofNat 6), .inr (.inr (some 82)), .inr (.inr (some 83)), .inr (.inr (some 84)), .inr (.inr (some 85)), .inr (.inr (some 86)), .inl am_top, .inr (.inr (some 87))]))))]))]
noncomputable def vd_940_0_0 : List (List Nat) := [[610766093463216062464, 11646594513698422785, 334007460459249666, 11646594513698422786, 786968412151029725986819, 2963125646307226681347, 45213709202620420, 3074095359964959735812], [11646593414186795009, 334007456164282370, 11646593414186795010, 786968412151025431019523, 2963125645207715053571, 45213709185843204, 3074095359964942958596, 11646592314675167233], [334007451869315074, 11646592314675167234, 786968412151021136052227, 2963125644108203425795, 45213709169065988, 3074095359964926181380, 11646591215163539457, 334007447574347778], [11646591215163539458, 786968412151016841084931, 2963125643008691798019, 45213709152288772, 3074095359964909404164, 11646590115651911681, 334007443346489346, 11646590128536813570], [2963125641922065072131, 45213709135511556, 11791164895293145089, 11791164895293145090, 786968412151012512563203, 3074095359964892626948]]
noncomputable def vd_940_0 : List (List (List Nat)) := [vd_940_0_0]
noncomputable def vd_940 : List (List (List (List Nat))) := [vd_940_0]
noncomputable def vt_940 : List (List am_I) := [[(.ofNat 2, .ofNat 5), (.ofNat 0, .ofNat 5), (.ofNat 2, .ofNat 3), (.ofNat 0, .ofNat 160), (.ofNat 0, .ofNat 3), (.ofNat 1, .ofNat 6)]]
noncomputable def vc_940 : vm_C := (fun _ => vp_940, fun pc => (match Nat.beq pc 7 with
  | true => [(fun _ _ => some (.inl 1), fun _ _ => some [.ofNat 0, .ofNat 1, .ofNat 2, .ofNat 3, .ofNat 4])]
  | false => []), [7, 38, 42, 50], 38, vm_inst 8 161 vt_940 vf_940 vd_940)
theorem vx_940_0 : vm_chk bt_163 [] vk_940 29 vc_940 0 14 = true := by decide +kernel
theorem vx_940_1 : vm_chk bt_163 [] vk_940 29 vc_940 14 14 = true := by decide +kernel
theorem vx_940_2 : vm_chk bt_163 [] vk_940 29 vc_940 28 10 = true := by decide +kernel
theorem vy_940 : vm_ents 163 29 vc_940 ve_940 = true := by decide +kernel
theorem vw_940 : ∀ q ∈ vk_940, vm_wt 4 q := vm_wts (vm_kc (vm_up (vj_898 160 (by decide)) rfl) (vm_kc (vm_up v_899 rfl) (vm_kc (vm_up v_842 rfl) (vm_kc (vm_up v_844 rfl) (vm_kc (vm_up v_921 rfl) (vm_kc (vm_up v_936 rfl) (vm_kc (vm_up v_871 rfl) vm_kn))))))) (by decide +kernel)
theorem v_940 : vm_at 5 q_940 := vm_ok (inl := []) (es := ve_940) bq_163 (by decide) vw_940 vy_940 (fun i => vm_hc vx_940_2 rfl (vm_hc vx_940_1 rfl (vm_hc vx_940_0 rfl (fun h => absurd h (Nat.not_lt_zero _))))) _ List.mem_cons_self
noncomputable def va_c240 : am_C := .inr (.inr (.inr (7, [.inr (.inr (some 71)), .inr (.inr (some 72)), .inl (.ofNat 2, .ofNat 5), .inl (.ofNat 2, .ofNat 5), .inl (.ofNat 0, .ofNat 5), .inr (.inr (some 73)), .inl (.ofNat 2, .ofNat 5), .inl (.ofNat 2, .ofNat 5), .inl (.ofNat 0, .ofNat 5), .inl am_top, .inl am_top, .inl am_top, .inr (.inr (some 74)), .inl (.ofNat 0, .ofNat 160), .inl (.ofNat 159, .ofNat 160), .inl (.ofNat 0, .ofNat 160), .inl (.ofNat 0, .ofNat 3), .inl am_top, .inl (.ofNat 0, .ofNat 0), .inl am_top, .inr (.inr (some 75)), .inr (.inr (some 76)), .inr (.inr (some 77)), .inr (.inr (some 78)), .inr (.inr (some 79)), .inr (.inr (some 80)), .inr (.inr (some 81)), .inl (.negSucc 0, .ofNat 6), .inr (.inr (some 82)), .inr (.inr (some 83)), .inr (.inr (some 84)), .inr (.inr (some 85)), .inr (.inr (some 86)), .inl am_top, .inr (.inr (some 87))])))
noncomputable def va_h353 : am_H := (80, [(62, va_c240)])
noncomputable def vp_956 : List vm_R := [(none, va_h346), (none, va_h347), (none, va_h168)]
noncomputable def ve_956 : List vm_E := [([.inr (.inr (some 70))], va_h353, 0, [0])]
noncomputable def q_956 : vm_Q := (163, [.inr (.inr (some 70))], va_h353, vp_956)
noncomputable def vk_956 : List vm_U := [((qj_898 159), false, [(7, 62, 6), (7, 62, 7)]), (q_899, false, []), (q_842, false, [(7, 62, 14)]), (q_844, false, [(7, 62, 14)]), (q_921, false, []), (q_936, false, [(7, 62, 6), (7, 62, 7)]), ((q_F_rn_0_24 159), false, [(7, 62, 6), (7, 62, 7)]), (q_871, false, [(7, 62, 14), (7, 62, 17)])]
noncomputable def vf_956 : List ((Nat → am_I) → vm_A) := [fun v => (0, [(0, .inr (.inr (some 70)))], [], (80, [(62, va_c240)])), fun v => (7, [(0, .inr (.inr (some 70))), (1, .inl (v 0))], [], (80, [(62, .inr (.inr (.inr (7, [.inr (.inr (some 71)), .inr (.inr (some 72)), .inl (.ofNat 2, .ofNat 5), .inl (.ofNat 2, .ofNat 5), .inl (.ofNat 0, .ofNat 5), .inr (.inr (some 73)), .inl (v 1), .inl (v 2), .inl (.ofNat 0, .ofNat 5), .inl am_top, .inl am_top, .inl am_top, .inr (.inr (some 74)), .inl (.ofNat 0, .ofNat 160), .inl (.ofNat 159, .ofNat 160), .inl (.ofNat 0, .ofNat 160), .inl (.ofNat 0, .ofNat 3), .inl am_top, .inl (v 3), .inl am_top, .inr (.inr (some 75)), .inr (.inr (some 76)), .inr (.inr (some 77)), .inr (.inr (some 78)), .inr (.inr (some 79)), .inr (.inr (some 80)), .inr (.inr (some 81)), .inl (.negSucc 0, .ofNat 6), .inr (.inr (some 82)), .inr (.inr (some 83)), .inr (.inr (some 84)), .inr (.inr (some 85)), .inr (.inr (some 86)), .inl am_top, .inr (.inr (some 87))]))))])), fun v => (38, [(0, .inr (.inr (some 70))), (1, .inl (v 0))], [], (80, [(62, .inr (.inr (.inr (7, [.inr (.inr (some 71)), .inr (.inr (some 72)), .inl (.ofNat 2, .ofNat 5), .inl (.ofNat 2, .ofNat 5), .inl (.ofNat 0, .ofNat 5), .inr (.inr (some 73)), .inl (v 1), .inl (v 2), .inl (.ofNat 0, .ofNat 5), .inl am_top, .inl am_top, .inl am_top, .inr (.inr (some 74)), .inl (.ofNat 0, .ofNat 160), .inl (.ofNat 159, .ofNat 160), .inl (.ofNat 0, .ofNat 160), .inl (.ofNat 0, .ofNat 3), .inl am_top, .inl (v 3), .inl am_top, .inr (.inr (some 75)), .inr (.inr (some 76)), .inr (.inr (some 77)), .inr (.inr (some 78)), .inr (.inr (some 79)), .inr (.inr (some 80)), .inr (.inr (some 81)), .inl (.negSucc 0, .ofNat 6), .inr (.inr (some 82)), .inr (.inr (some 83)), .inr (.inr (some 84)), .inr (.inr (some 85)), .inr (.inr (some 86)), .inl am_top, .inr (.inr (some 87))]))))])), fun v => (42, [(0, .inr (.inr (some 70))), (1, .inl (v 0))], [], (80, [(62, .inr (.inr (.inr (7, [.inr (.inr (some 71)), .inr (.inr (some 72)), .inl (.ofNat 2, .ofNat 5), .inl (.ofNat 2, .ofNat 5), .inl (.ofNat 0, .ofNat 5), .inr (.inr (some 73)), .inl (v 1), .inl (v 2), .inl (.ofNat 0, .ofNat 5), .inl am_top, .inl am_top, .inl am_top, .inr (.inr (some 74)), .inl (.ofNat 0, .ofNat 160), .inl (v 3), .inl (.ofNat 0, .ofNat 160), .inl (v 4), .inl am_top, .inl (v 5), .inl am_top, .inr (.inr (some 75)), .inr (.inr (some 76)), .inr (.inr (some 77)), .inr (.inr (some 78)), .inr (.inr (some 79)), .inr (.inr (some 80)), .inr (.inr (some 81)), .inl (.negSucc 0, .ofNat 6), .inr (.inr (some 82)), .inr (.inr (some 83)), .inr (.inr (some 84)), .inr (.inr (some 85)), .inr (.inr (some 86)), .inl am_top, .inr (.inr (some 87))]))))])), fun v => (50, [(0, .inr (.inr (some 70))), (1, .inl (v 0)), (2, .inl (.ofNat 0, .ofNat 24))], [], (80, [(62, .inr (.inr (.inr (7, [.inr (.inr (some 71)), .inr (.inr (some 72)), .inl (.ofNat 2, .ofNat 5), .inl (.ofNat 2, .ofNat 5), .inl (.ofNat 0, .ofNat 5), .inr (.inr (some 73)), .inl (v 1), .inl (v 2), .inl (.ofNat 0, .ofNat 5), .inl am_top, .inl am_top, .inl am_top, .inr (.inr (some 74)), .inl (.ofNat 0, .ofNat 160), .inl (v 3), .inl (.ofNat 0, .ofNat 160), .inl (v 4), .inl am_top, .inl (v 5), .inl am_top, .inr (.inr (some 75)), .inr (.inr (some 76)), .inr (.inr (some 77)), .inr (.inr (some 78)), .inr (.inr (some 79)), .inr (.inr (some 80)), .inr (.inr (some 81)), .inl (.negSucc 0, .ofNat 6), .inr (.inr (some 82)), .inr (.inr (some 83)), .inr (.inr (some 84)), .inr (.inr (some 85)), .inr (.inr (some 86)), .inl am_top, .inr (.inr (some 87))]))))]))]
noncomputable def vd_956_0_0 : List (List Nat) := [[888334485582059536384, 11646594513698422785, 334007460492804098, 2981528197714376065026, 777431228836946221596675, 45213709202620420, 791709297435567135457283, 796339097318710965370883], [47465509016305668, 11862659131422801924, 3092614443107683926020, 11646593414186795009, 334007456197836802, 2981527916239399354370, 777431228835846709968899, 45213709185843204], [791709297435562840489987, 796339097037235988660227, 47465508999528452, 11862659131406024708, 3092614443107667148804, 11646592314675167233, 334007451902869506, 2981527634764422643714], [777431228834747198341123, 45213709169065988, 791709297435558545522691, 796339096755761011949571, 47465508982751236, 11862659131389247492, 3092614443107650371588, 11646591215163539457], [334007447607902210, 2981527353289445933058, 777431228833647686713347, 45213709152288772, 791709297435554250555395, 796339096474286035238915, 47465508965974020, 11862659131372470276], [3092614443107633594372, 11646590115651911681, 334007443396820994, 2981527076212515733506, 777431228832556765020163, 45213709135511556, 796339096196109593411587, 47465508949196804], [11862659131355693060, 11791164895293145089, 11791164895293145090, 791709297435549905256451, 3092614443107616817156]]
noncomputable def vd_956_0 : List (List (List Nat)) := [vd_956_0_0]
noncomputable def vd_956 : List (List (List (List Nat))) := [vd_956_0]
noncomputable def vt_956 : List (List am_I) := [[(.ofNat 2, .ofNat 5), (.ofNat 0, .ofNat 5), (.ofNat 2, .ofNat 3), (.ofNat 1, .ofNat 3), (.ofNat 0, .ofNat 160), (.ofNat 0, .ofNat 3), (.ofNat 1, .ofNat 6), (.ofNat 159, .ofNat 160)]]
noncomputable def vc_956 : vm_C := (fun _ => vp_956, fun pc => (match Nat.beq pc 7 with
  | true => [(fun _ _ => some (.inl 1), fun _ _ => some [.ofNat 0, .ofNat 1, .ofNat 2, .ofNat 3, .ofNat 4])]
  | false => []), [7, 38, 42, 50], 53, vm_inst 8 161 vt_956 vf_956 vd_956)
theorem vx_956_0 : vm_chk bt_163 [] vk_956 29 vc_956 0 10 = true := by decide +kernel
theorem vx_956_1 : vm_chk bt_163 [] vk_956 29 vc_956 10 10 = true := by decide +kernel
theorem vx_956_2 : vm_chk bt_163 [] vk_956 29 vc_956 20 10 = true := by decide +kernel
theorem vx_956_3 : vm_chk bt_163 [] vk_956 29 vc_956 30 10 = true := by decide +kernel
theorem vx_956_4 : vm_chk bt_163 [] vk_956 29 vc_956 40 9 = true := by decide +kernel
theorem vx_956_5 : vm_chk bt_163 [] vk_956 29 vc_956 49 4 = true := by decide +kernel
theorem vy_956 : vm_ents 163 29 vc_956 ve_956 = true := by decide +kernel
theorem vw_956 : ∀ q ∈ vk_956, vm_wt 4 q := vm_wts (vm_kc (vm_up (vj_898 159 (by decide)) rfl) (vm_kc (vm_up v_899 rfl) (vm_kc (vm_up v_842 rfl) (vm_kc (vm_up v_844 rfl) (vm_kc (vm_up v_921 rfl) (vm_kc (vm_up v_936 rfl) (vm_kc (vm_up (v_F_rn_0_24 159 (by decide) (by decide)) rfl) (vm_kc (vm_up v_871 rfl) vm_kn)))))))) (by decide +kernel)
theorem v_956 : vm_at 5 q_956 := vm_ok (inl := []) (es := ve_956) bq_163 (by decide) vw_956 vy_956 (fun i => vm_hc vx_956_5 rfl (vm_hc vx_956_4 rfl (vm_hc vx_956_3 rfl (vm_hc vx_956_2 rfl (vm_hc vx_956_1 rfl (vm_hc vx_956_0 rfl (fun h => absurd h (Nat.not_lt_zero _)))))))) _ List.mem_cons_self
noncomputable def va_c241 : am_C := .inr (.inr (.inr (7, [.inr (.inr (some 71)), .inr (.inr (some 72)), .inl (.ofNat 2, .ofNat 5), .inl (.ofNat 2, .ofNat 5), .inl (.ofNat 0, .ofNat 5), .inr (.inr (some 73)), .inl (.ofNat 2, .ofNat 5), .inl (.ofNat 2, .ofNat 5), .inl (.ofNat 0, .ofNat 5), .inl am_top, .inl am_top, .inl am_top, .inr (.inr (some 74)), .inl (.ofNat 0, .ofNat 160), .inl (.ofNat 158, .ofNat 160), .inl (.ofNat 0, .ofNat 160), .inl (.ofNat 0, .ofNat 3), .inl am_top, .inl (.ofNat 0, .ofNat 0), .inl am_top, .inr (.inr (some 75)), .inr (.inr (some 76)), .inr (.inr (some 77)), .inr (.inr (some 78)), .inr (.inr (some 79)), .inr (.inr (some 80)), .inr (.inr (some 81)), .inl (.negSucc 0, .ofNat 6), .inr (.inr (some 82)), .inr (.inr (some 83)), .inr (.inr (some 84)), .inr (.inr (some 85)), .inr (.inr (some 86)), .inl am_top, .inr (.inr (some 87))])))
noncomputable def va_h354 : am_H := (80, [(62, va_c241)])
noncomputable def vp_972 : List vm_R := [(none, va_h349), (none, va_h350), (none, va_h168)]
noncomputable def ve_972 : List vm_E := [([.inr (.inr (some 70))], va_h354, 0, [0])]
noncomputable def q_972 : vm_Q := (163, [.inr (.inr (some 70))], va_h354, vp_972)
noncomputable def vk_972 : List vm_U := [((qj_898 158), false, [(7, 62, 6), (7, 62, 7)]), (q_899, false, []), (q_842, false, [(7, 62, 14)]), (q_844, false, [(7, 62, 14)]), (q_921, false, []), ((q_F_rn_0_24 159), false, [(7, 62, 6), (7, 62, 7)]), ((q_F_rn_0_24 158), false, [(7, 62, 6), (7, 62, 7)]), (q_871, false, [(7, 62, 14), (7, 62, 17)])]
noncomputable def vf_972 : List ((Nat → am_I) → vm_A) := [fun v => (0, [(0, .inr (.inr (some 70)))], [], (80, [(62, va_c241)])), fun v => (7, [(0, .inr (.inr (some 70))), (1, .inl (v 0))], [], (80, [(62, .inr (.inr (.inr (7, [.inr (.inr (some 71)), .inr (.inr (some 72)), .inl (.ofNat 2, .ofNat 5), .inl (.ofNat 2, .ofNat 5), .inl (.ofNat 0, .ofNat 5), .inr (.inr (some 73)), .inl (v 1), .inl (v 2), .inl (.ofNat 0, .ofNat 5), .inl am_top, .inl am_top, .inl am_top, .inr (.inr (some 74)), .inl (.ofNat 0, .ofNat 160), .inl (.ofNat 158, .ofNat 160), .inl (.ofNat 0, .ofNat 160), .inl (.ofNat 0, .ofNat 3), .inl am_top, .inl (v 3), .inl am_top, .inr (.inr (some 75)), .inr (.inr (some 76)), .inr (.inr (some 77)), .inr (.inr (some 78)), .inr (.inr (some 79)), .inr (.inr (some 80)), .inr (.inr (some 81)), .inl (.negSucc 0, .ofNat 6), .inr (.inr (some 82)), .inr (.inr (some 83)), .inr (.inr (some 84)), .inr (.inr (some 85)), .inr (.inr (some 86)), .inl am_top, .inr (.inr (some 87))]))))])), fun v => (38, [(0, .inr (.inr (some 70))), (1, .inl (v 0))], [], (80, [(62, .inr (.inr (.inr (7, [.inr (.inr (some 71)), .inr (.inr (some 72)), .inl (.ofNat 2, .ofNat 5), .inl (.ofNat 2, .ofNat 5), .inl (.ofNat 0, .ofNat 5), .inr (.inr (some 73)), .inl (v 1), .inl (v 2), .inl (.ofNat 0, .ofNat 5), .inl am_top, .inl am_top, .inl am_top, .inr (.inr (some 74)), .inl (.ofNat 0, .ofNat 160), .inl (.ofNat 158, .ofNat 160), .inl (.ofNat 0, .ofNat 160), .inl (.ofNat 0, .ofNat 3), .inl am_top, .inl (v 3), .inl am_top, .inr (.inr (some 75)), .inr (.inr (some 76)), .inr (.inr (some 77)), .inr (.inr (some 78)), .inr (.inr (some 79)), .inr (.inr (some 80)), .inr (.inr (some 81)), .inl (.negSucc 0, .ofNat 6), .inr (.inr (some 82)), .inr (.inr (some 83)), .inr (.inr (some 84)), .inr (.inr (some 85)), .inr (.inr (some 86)), .inl am_top, .inr (.inr (some 87))]))))])), fun v => (42, [(0, .inr (.inr (some 70))), (1, .inl (v 0))], [], (80, [(62, .inr (.inr (.inr (7, [.inr (.inr (some 71)), .inr (.inr (some 72)), .inl (.ofNat 2, .ofNat 5), .inl (.ofNat 2, .ofNat 5), .inl (.ofNat 0, .ofNat 5), .inr (.inr (some 73)), .inl (v 1), .inl (v 2), .inl (.ofNat 0, .ofNat 5), .inl am_top, .inl am_top, .inl am_top, .inr (.inr (some 74)), .inl (.ofNat 0, .ofNat 160), .inl (v 3), .inl (.ofNat 0, .ofNat 160), .inl (v 4), .inl am_top, .inl (v 5), .inl am_top, .inr (.inr (some 75)), .inr (.inr (some 76)), .inr (.inr (some 77)), .inr (.inr (some 78)), .inr (.inr (some 79)), .inr (.inr (some 80)), .inr (.inr (some 81)), .inl (.negSucc 0, .ofNat 6), .inr (.inr (some 82)), .inr (.inr (some 83)), .inr (.inr (some 84)), .inr (.inr (some 85)), .inr (.inr (some 86)), .inl am_top, .inr (.inr (some 87))]))))])), fun v => (50, [(0, .inr (.inr (some 70))), (1, .inl (v 0)), (2, .inl (.ofNat 0, .ofNat 24))], [], (80, [(62, .inr (.inr (.inr (7, [.inr (.inr (some 71)), .inr (.inr (some 72)), .inl (.ofNat 2, .ofNat 5), .inl (.ofNat 2, .ofNat 5), .inl (.ofNat 0, .ofNat 5), .inr (.inr (some 73)), .inl (v 1), .inl (v 2), .inl (.ofNat 0, .ofNat 5), .inl am_top, .inl am_top, .inl am_top, .inr (.inr (some 74)), .inl (.ofNat 0, .ofNat 160), .inl (v 3), .inl (.ofNat 0, .ofNat 160), .inl (v 4), .inl am_top, .inl (v 5), .inl am_top, .inr (.inr (some 75)), .inr (.inr (some 76)), .inr (.inr (some 77)), .inr (.inr (some 78)), .inr (.inr (some 79)), .inr (.inr (some 80)), .inr (.inr (some 81)), .inl (.negSucc 0, .ofNat 6), .inr (.inr (some 82)), .inr (.inr (some 83)), .inr (.inr (some 84)), .inr (.inr (some 85)), .inr (.inr (some 86)), .inl am_top, .inr (.inr (some 87))]))))]))]
noncomputable def vd_972_0_0 : List (List Nat) := [[980857282955007361024, 11646594513698422785, 334007460509581314, 2981528198818182660098, 200250209867805444257546243, 46339609109463044, 11934716725460729860, 796450182720104528150531], [801061463801580610584579, 47746983993016324, 11935842625367572484, 3111133526250408116228, 11646593414186795009, 334007456214614018, 2981527917343205949442, 200250209867523969280835587], [46339609092685828, 11934716725443952644, 796450182720100233183235, 801061463520105633873923, 47746983976239108, 11935842625350795268, 3111133526250391339012, 11646592314675167233], [334007451919646722, 2981527635868229238786, 200250209867242494304124931, 46339609075908612, 11934716725427175428, 796450182720095938215939, 801061463238630657163267, 47746983959461892], [11935842625334018052, 3111133526250374561796, 11646591215163539457, 334007447624679426, 2981527354393252528130, 200250209866961019327414275, 46339609059131396, 11934716725410398212], [796450182720091643248643, 801061462957155680452611, 47746983942684676, 11935842625317240836, 3111133526250357784580, 11646590115651911681, 334007443413598210, 2981527077316322328578], [200250209866681743373959171, 46339609042354180, 11934716725393620996, 801061462678979238625283, 47746983925907460, 11935842625300463620, 11791164895293145089, 11791164895293145090], [796450182720087297949699, 3111133526250341007364]]
noncomputable def vd_972_0 : List (List (List Nat)) := [vd_972_0_0]
noncomputable def vd_972 : List (List (List (List Nat))) := [vd_972_0]
noncomputable def vt_972 : List (List am_I) := [[(.ofNat 2, .ofNat 5), (.ofNat 0, .ofNat 5), (.ofNat 2, .ofNat 3), (.ofNat 159, .ofNat 160), (.ofNat 1, .ofNat 3), (.ofNat 0, .ofNat 160), (.ofNat 0, .ofNat 3), (.ofNat 1, .ofNat 6)], [(.ofNat 158, .ofNat 160)]]
noncomputable def vc_972 : vm_C := (fun _ => vp_972, fun pc => (match Nat.beq pc 7 with
  | true => [(fun _ _ => some (.inl 1), fun _ _ => some [.ofNat 0, .ofNat 1, .ofNat 2, .ofNat 3, .ofNat 4])]
  | false => []), [7, 38, 42, 50], 58, vm_inst 8 161 vt_972 vf_972 vd_972)
theorem vx_972_0 : vm_chk bt_163 [] vk_972 29 vc_972 0 10 = true := by decide +kernel
theorem vx_972_1 : vm_chk bt_163 [] vk_972 29 vc_972 10 8 = true := by decide +kernel
theorem vx_972_2 : vm_chk bt_163 [] vk_972 29 vc_972 18 10 = true := by decide +kernel
theorem vx_972_3 : vm_chk bt_163 [] vk_972 29 vc_972 28 6 = true := by decide +kernel
theorem vx_972_4 : vm_chk bt_163 [] vk_972 29 vc_972 34 9 = true := by decide +kernel
theorem vx_972_5 : vm_chk bt_163 [] vk_972 29 vc_972 43 8 = true := by decide +kernel
theorem vx_972_6 : vm_chk bt_163 [] vk_972 29 vc_972 51 7 = true := by decide +kernel
theorem vy_972 : vm_ents 163 29 vc_972 ve_972 = true := by decide +kernel
theorem vw_972 : ∀ q ∈ vk_972, vm_wt 4 q := vm_wts (vm_kc (vm_up (vj_898 158 (by decide)) rfl) (vm_kc (vm_up v_899 rfl) (vm_kc (vm_up v_842 rfl) (vm_kc (vm_up v_844 rfl) (vm_kc (vm_up v_921 rfl) (vm_kc (vm_up (v_F_rn_0_24 159 (by decide) (by decide)) rfl) (vm_kc (vm_up (v_F_rn_0_24 158 (by decide) (by decide)) rfl) (vm_kc (vm_up v_871 rfl) vm_kn)))))))) (by decide +kernel)
theorem v_972 : vm_at 5 q_972 := vm_ok (inl := []) (es := ve_972) bq_163 (by decide) vw_972 vy_972 (fun i => vm_hc vx_972_6 rfl (vm_hc vx_972_5 rfl (vm_hc vx_972_4 rfl (vm_hc vx_972_3 rfl (vm_hc vx_972_2 rfl (vm_hc vx_972_1 rfl (vm_hc vx_972_0 rfl (fun h => absurd h (Nat.not_lt_zero _))))))))) _ List.mem_cons_self
noncomputable def vp_3500 : List vm_R := [(none, va_h343), (none, va_h344), (none, va_h168)]
noncomputable def ve_3500 : List vm_E := [([.inr (.inr (some 70))], va_h167, 0, [0])]
noncomputable def q_3500 : vm_Q := (163, [.inr (.inr (some 70))], va_h167, vp_3500)
noncomputable def vk_3500 : List vm_U := [((qj_898 0), false, [(7, 62, 6), (7, 62, 7)]), (q_899, false, []), (q_842, false, []), (q_844, false, []), (q_921, false, []), ((q_F_rn_0_24 1), false, [(7, 62, 6), (7, 62, 7)]), (q_3496, false, [(7, 62, 6), (7, 62, 7)]), (q_871, false, [(7, 62, 17)])]
noncomputable def vf_3500 : List ((Nat → am_I) → vm_A) := [fun v => (0, [(0, .inr (.inr (some 70)))], [], (80, [(62, va_c52)])), fun v => (7, [(0, .inr (.inr (some 70))), (1, .inl (v 0))], [], (80, [(62, .inr (.inr (.inr (7, [.inr (.inr (some 71)), .inr (.inr (some 72)), .inl (.ofNat 2, .ofNat 5), .inl (.ofNat 2, .ofNat 5), .inl (.ofNat 0, .ofNat 5), .inr (.inr (some 73)), .inl (v 1), .inl (v 2), .inl (.ofNat 0, .ofNat 5), .inl am_top, .inl am_top, .inl am_top, .inr (.inr (some 74)), .inl (.ofNat 0, .ofNat 160), .inl (.ofNat 0, .ofNat 160), .inl (.ofNat 0, .ofNat 160), .inl (.ofNat 0, .ofNat 3), .inl am_top, .inl (v 3), .inl am_top, .inr (.inr (some 75)), .inr (.inr (some 76)), .inr (.inr (some 77)), .inr (.inr (some 78)), .inr (.inr (some 79)), .inr (.inr (some 80)), .inr (.inr (some 81)), .inl (.negSucc 0, .ofNat 6), .inr (.inr (some 82)), .inr (.inr (some 83)), .inr (.inr (some 84)), .inr (.inr (some 85)), .inr (.inr (some 86)), .inl am_top, .inr (.inr (some 87))]))))])), fun v => (38, [(0, .inr (.inr (some 70))), (1, .inl (v 0))], [], (80, [(62, .inr (.inr (.inr (7, [.inr (.inr (some 71)), .inr (.inr (some 72)), .inl (.ofNat 2, .ofNat 5), .inl (.ofNat 2, .ofNat 5), .inl (.ofNat 0, .ofNat 5), .inr (.inr (some 73)), .inl (v 1), .inl (v 2), .inl (.ofNat 0, .ofNat 5), .inl am_top, .inl am_top, .inl am_top, .inr (.inr (some 74)), .inl (.ofNat 0, .ofNat 160), .inl (.ofNat 0, .ofNat 160), .inl (.ofNat 0, .ofNat 160), .inl (.ofNat 0, .ofNat 3), .inl am_top, .inl (v 3), .inl am_top, .inr (.inr (some 75)), .inr (.inr (some 76)), .inr (.inr (some 77)), .inr (.inr (some 78)), .inr (.inr (some 79)), .inr (.inr (some 80)), .inr (.inr (some 81)), .inl (.negSucc 0, .ofNat 6), .inr (.inr (some 82)), .inr (.inr (some 83)), .inr (.inr (some 84)), .inr (.inr (some 85)), .inr (.inr (some 86)), .inl am_top, .inr (.inr (some 87))]))))])), fun v => (42, [(0, .inr (.inr (some 70))), (1, .inl (v 0))], [], (80, [(62, .inr (.inr (.inr (7, [.inr (.inr (some 71)), .inr (.inr (some 72)), .inl (.ofNat 2, .ofNat 5), .inl (.ofNat 2, .ofNat 5), .inl (.ofNat 0, .ofNat 5), .inr (.inr (some 73)), .inl (v 1), .inl (v 2), .inl (.ofNat 0, .ofNat 5), .inl am_top, .inl am_top, .inl am_top, .inr (.inr (some 74)), .inl (.ofNat 0, .ofNat 160), .inl (v 3), .inl (.ofNat 0, .ofNat 160), .inl (v 4), .inl am_top, .inl (v 5), .inl am_top, .inr (.inr (some 75)), .inr (.inr (some 76)), .inr (.inr (some 77)), .inr (.inr (some 78)), .inr (.inr (some 79)), .inr (.inr (some 80)), .inr (.inr (some 81)), .inl (.negSucc 0, .ofNat 6), .inr (.inr (some 82)), .inr (.inr (some 83)), .inr (.inr (some 84)), .inr (.inr (some 85)), .inr (.inr (some 86)), .inl am_top, .inr (.inr (some 87))]))))])), fun v => (50, [(0, .inr (.inr (some 70))), (1, .inl (v 0)), (2, .inl (.ofNat 0, .ofNat 24))], [], (80, [(62, .inr (.inr (.inr (7, [.inr (.inr (some 71)), .inr (.inr (some 72)), .inl (.ofNat 2, .ofNat 5), .inl (.ofNat 2, .ofNat 5), .inl (.ofNat 0, .ofNat 5), .inr (.inr (some 73)), .inl (v 1), .inl (v 2), .inl (.ofNat 0, .ofNat 5), .inl am_top, .inl am_top, .inl am_top, .inr (.inr (some 74)), .inl (.ofNat 0, .ofNat 160), .inl (v 3), .inl (.ofNat 0, .ofNat 160), .inl (v 4), .inl am_top, .inl (v 5), .inl am_top, .inr (.inr (some 75)), .inr (.inr (some 76)), .inr (.inr (some 77)), .inr (.inr (some 78)), .inr (.inr (some 79)), .inr (.inr (some 80)), .inr (.inr (some 81)), .inl (.negSucc 0, .ofNat 6), .inr (.inr (some 82)), .inr (.inr (some 83)), .inr (.inr (some 84)), .inr (.inr (some 85)), .inr (.inr (some 86)), .inl am_top, .inr (.inr (some 87))]))))]))]
noncomputable def vd_3500_0_0 : List (List Nat) := [[980857282955007361024, 3906314129132093441, 303771990257369090, 1000016420369202348034, 70387872443594621545807875, 16103679295750148, 4196851508379123716, 289175427039133257760771], [279619638907470656765955, 16666629249171460, 4195444133495570436, 1129591511871614091268, 3906313029620465665, 303771985962401794, 1000016138894225637378, 70387872443313146569097219], [16103679278972932, 4196851508362346500, 289175427039128962793475, 279619638625995680055299, 16666629232394244, 4195444133478793220, 1129591511871597314052, 3906311930108837889], [303771981667434498, 1000015857419248926722, 70387872443031671592386563, 16103679262195716, 4196851508345569284, 289175427039124667826179, 279619638344520703344643, 16666629215617028], [4195444133462016004, 1129591511871580536836, 3906310830597210113, 303771977372467202, 1000015575944272216066, 70387872442750196615675907, 16103679245418500, 4196851508328792068], [289175427039120372858883, 279619638063045726633987, 16666629198839812, 4195444133445238788, 1129591511871563759620, 3906309731085582337, 303771973161385986, 1000015298867342016514], [70387872442470920662220803, 16103679228641284, 4196851508312014852, 279619637784869284806659, 16666629182062596, 4195444133428461572, 4050766862982643713, 4050766862982643714], [289175427039116027559939, 1129591511871546982404]]
noncomputable def vd_3500_0 : List (List (List Nat)) := [vd_3500_0_0]
noncomputable def vd_3500 : List (List (List (List Nat))) := [vd_3500_0]
noncomputable def vt_3500 : List (List am_I) := [[(.ofNat 2, .ofNat 5), (.ofNat 0, .ofNat 5), (.ofNat 2, .ofNat 3), (.ofNat 1, .ofNat 160), (.ofNat 1, .ofNat 3), (.ofNat 0, .ofNat 160), (.ofNat 0, .ofNat 3), (.ofNat 1, .ofNat 6)], [(.ofNat 2, .ofNat 160)]]
noncomputable def vc_3500 : vm_C := (fun _ => vp_3500, fun pc => (match Nat.beq pc 7 with
  | true => [(fun _ _ => some (.inl 1), fun _ _ => some [.ofNat 0, .ofNat 1, .ofNat 2, .ofNat 3, .ofNat 4])]
  | false => []), [7, 38, 42, 50], 58, vm_inst 8 54 vt_3500 vf_3500 vd_3500)
theorem vx_3500_0 : vm_chk bt_163 [] vk_3500 29 vc_3500 0 10 = true := by decide +kernel
theorem vx_3500_1 : vm_chk bt_163 [] vk_3500 29 vc_3500 10 8 = true := by decide +kernel
theorem vx_3500_2 : vm_chk bt_163 [] vk_3500 29 vc_3500 18 10 = true := by decide +kernel
theorem vx_3500_3 : vm_chk bt_163 [] vk_3500 29 vc_3500 28 6 = true := by decide +kernel
theorem vx_3500_4 : vm_chk bt_163 [] vk_3500 29 vc_3500 34 9 = true := by decide +kernel
theorem vx_3500_5 : vm_chk bt_163 [] vk_3500 29 vc_3500 43 8 = true := by decide +kernel
theorem vx_3500_6 : vm_chk bt_163 [] vk_3500 29 vc_3500 51 7 = true := by decide +kernel
theorem vy_3500 : vm_ents 163 29 vc_3500 ve_3500 = true := by decide +kernel
theorem vw_3500 : ∀ q ∈ vk_3500, vm_wt 4 q := vm_wts (vm_kc (vm_up (vj_898 0 (by decide)) rfl) (vm_kc (vm_up v_899 rfl) (vm_kc (vm_up v_842 rfl) (vm_kc (vm_up v_844 rfl) (vm_kc (vm_up v_921 rfl) (vm_kc (vm_up (v_F_rn_0_24 1 (by decide) (by decide)) rfl) (vm_kc (vm_up v_3496 rfl) (vm_kc (vm_up v_871 rfl) vm_kn)))))))) (by decide +kernel)
theorem v_3500 : vm_at 5 q_3500 := vm_ok (inl := []) (es := ve_3500) bq_163 (by decide) vw_3500 vy_3500 (fun i => vm_hc vx_3500_6 rfl (vm_hc vx_3500_5 rfl (vm_hc vx_3500_4 rfl (vm_hc vx_3500_3 rfl (vm_hc vx_3500_2 rfl (vm_hc vx_3500_1 rfl (vm_hc vx_3500_0 rfl (fun h => absurd h (Nat.not_lt_zero _))))))))) _ List.mem_cons_self
