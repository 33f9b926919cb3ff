noncomputable def vp_F_readGoal (s : Nat) : List vm_R := [(none, (80, [(62, .inr (.inr (.inr (7, [.inr (.inr (some 71)), .inr (.inr (some 72)), .inl (.ofNat 2, .ofNat 5), .inl (.ofNat 2, .ofNat 5), .inl (.ofNat 0, .ofNat 5), .inr (.inr (some 73)), .inl (.ofNat 2, .ofNat 5), .inl (.ofNat 2, .ofNat 5), .inl (.ofNat 0, .ofNat 5), .inl am_top, .inl am_top, .inl am_top, .inr (.inr (some 74)), .inl (.ofNat 0, .ofNat 160), .inl (.ofNat (s + 0), .ofNat 160), .inl (.ofNat 0, .ofNat 160), .inl (.ofNat 0, .ofNat 0), .inl am_top, .inl (.ofNat 0, .ofNat 0), .inl am_top, .inr (.inr (some 75)), .inr (.inr (some 76)), .inr (.inr (some 77)), .inr (.inr (some 78)), .inr (.inr (some 79)), .inr (.inr (some 80)), .inr (.inr (some 81)), .inl (.negSucc 0, .ofNat 6), .inr (.inr (some 82)), .inr (.inr (some 83)), .inr (.inr (some 84)), .inr (.inr (some 85)), .inr (.inr (some 86)), .inl am_top, .inr (.inr (some 87))]))))])), (none, (80, [(62, .inr (.inr (.inr (7, [.inr (.inr (some 71)), .inr (.inr (some 72)), .inl (.ofNat 2, .ofNat 5), .inl (.ofNat 2, .ofNat 5), .inl (.ofNat 0, .ofNat 5), .inr (.inr (some 73)), .inl (.ofNat 2, .ofNat 5), .inl (.ofNat 2, .ofNat 5), .inl (.ofNat 0, .ofNat 5), .inl am_top, .inl am_top, .inl am_top, .inr (.inr (some 74)), .inl (.ofNat 0, .ofNat 160), .inl (.ofNat (s + 1), .ofNat 160), .inl (.ofNat 0, .ofNat 160), .inl (.ofNat 1, .ofNat 3), .inl am_top, .inl (.ofNat 0, .ofNat 0), .inl am_top, .inr (.inr (some 75)), .inr (.inr (some 76)), .inr (.inr (some 77)), .inr (.inr (some 78)), .inr (.inr (some 79)), .inr (.inr (some 80)), .inr (.inr (some 81)), .inl (.negSucc 0, .ofNat 6), .inr (.inr (some 82)), .inr (.inr (some 83)), .inr (.inr (some 84)), .inr (.inr (some 85)), .inr (.inr (some 86)), .inl am_top, .inr (.inr (some 87))]))))])), (none, (80, [(62, .inr (.inr (.inr (7, [.inr (.inr (some 71)), .inr (.inr (some 72)), .inl (.ofNat 2, .ofNat 5), .inl (.ofNat 2, .ofNat 5), .inl (.ofNat 0, .ofNat 5), .inr (.inr (some 73)), .inl (.ofNat 0, .ofNat 5), .inl (.ofNat 0, .ofNat 5), .inl (.ofNat 0, .ofNat 5), .inl am_top, .inl am_top, .inl am_top, .inr (.inr (some 74)), .inl (.ofNat 0, .ofNat 160), .inl (.ofNat 0, .ofNat 160), .inl (.ofNat 0, .ofNat 160), .inl (.ofNat 0, .ofNat 3), .inl am_top, .inl (.ofNat 1, .ofNat 6), .inl am_top, .inr (.inr (some 75)), .inr (.inr (some 76)), .inr (.inr (some 77)), .inr (.inr (some 78)), .inr (.inr (some 79)), .inr (.inr (some 80)), .inr (.inr (some 81)), .inl (.negSucc 0, .ofNat 6), .inr (.inr (some 82)), .inr (.inr (some 83)), .inr (.inr (some 84)), .inr (.inr (some 85)), .inr (.inr (some 86)), .inl am_top, .inr (.inr (some 87))]))))]))]
noncomputable def vk_F_readGoal (s : Nat) : List vm_U := [((qj_898 (s + 0)), false, [(7, 62, 6), (7, 62, 7)]), (q_899, false, []), (q_842, false, [(7, 62, 14)]), (q_844, false, [(7, 62, 14)]), (q_921, false, []), ((q_F_rn_0_24 (s + 1)), false, [(7, 62, 6), (7, 62, 7)]), ((q_F_rn_0_24 (s + 0)), false, [(7, 62, 6), (7, 62, 7)]), (q_871, false, [(7, 62, 14), (7, 62, 17)])]
noncomputable def vf_F_readGoal (s : Nat) : List ((Nat → am_I) → vm_A) := [fun v => (0, [(0, .inr (.inr (some 70)))], [], (80, [(62, .inr (.inr (.inr (7, [.inr (.inr (some 71)), .inr (.inr (some 72)), .inl (.ofNat 2, .ofNat 5), .inl (.ofNat 2, .ofNat 5), .inl (.ofNat 0, .ofNat 5), .inr (.inr (some 73)), .inl (.ofNat 2, .ofNat 5), .inl (.ofNat 2, .ofNat 5), .inl (.ofNat 0, .ofNat 5), .inl am_top, .inl am_top, .inl am_top, .inr (.inr (some 74)), .inl (.ofNat 0, .ofNat 160), .inl (.ofNat (s + 0), .ofNat 160), .inl (.ofNat 0, .ofNat 160), .inl (.ofNat 0, .ofNat 3), .inl am_top, .inl (.ofNat 0, .ofNat 0), .inl am_top, .inr (.inr (some 75)), .inr (.inr (some 76)), .inr (.inr (some 77)), .inr (.inr (some 78)), .inr (.inr (some 79)), .inr (.inr (some 80)), .inr (.inr (some 81)), .inl (.negSucc 0, .ofNat 6), .inr (.inr (some 82)), .inr (.inr (some 83)), .inr (.inr (some 84)), .inr (.inr (some 85)), .inr (.inr (some 86)), .inl am_top, .inr (.inr (some 87))]))))])), fun v => (7, [(0, .inr (.inr (some 70))), (1, .inl (v 0))], [], (80, [(62, .inr (.inr (.inr (7, [.inr (.inr (some 71)), .inr (.inr (some 72)), .inl (.ofNat 2, .ofNat 5), .inl (.ofNat 2, .ofNat 5), .inl (.ofNat 0, .ofNat 5), .inr (.inr (some 73)), .inl (v 1), .inl (v 2), .inl (.ofNat 0, .ofNat 5), .inl am_top, .inl am_top, .inl am_top, .inr (.inr (some 74)), .inl (.ofNat 0, .ofNat 160), .inl (.ofNat (s + 0), .ofNat 160), .inl (.ofNat 0, .ofNat 160), .inl (.ofNat 0, .ofNat 3), .inl am_top, .inl (v 3), .inl am_top, .inr (.inr (some 75)), .inr (.inr (some 76)), .inr (.inr (some 77)), .inr (.inr (some 78)), .inr (.inr (some 79)), .inr (.inr (some 80)), .inr (.inr (some 81)), .inl (.negSucc 0, .ofNat 6), .inr (.inr (some 82)), .inr (.inr (some 83)), .inr (.inr (some 84)), .inr (.inr (some 85)), .inr (.inr (some 86)), .inl am_top, .inr (.inr (some 87))]))))])), fun v => (38, [(0, .inr (.inr (some 70))), (1, .inl (v 0))], [], (80, [(62, .inr (.inr (.inr (7, [.inr (.inr (some 71)), .inr (.inr (some 72)), .inl (.ofNat 2, .ofNat 5), .inl (.ofNat 2, .ofNat 5), .inl (.ofNat 0, .ofNat 5), .inr (.inr (some 73)), .inl (v 1), .inl (v 2), .inl (.ofNat 0, .ofNat 5), .inl am_top, .inl am_top, .inl am_top, .inr (.inr (some 74)), .inl (.ofNat 0, .ofNat 160), .inl (.ofNat (s + 0), .ofNat 160), .inl (.ofNat 0, .ofNat 160), .inl (.ofNat 0, .ofNat 3), .inl am_top, .inl (v 3), .inl am_top, .inr (.inr (some 75)), .inr (.inr (some 76)), .inr (.inr (some 77)), .inr (.inr (some 78)), .inr (.inr (some 79)), .inr (.inr (some 80)), .inr (.inr (some 81)), .inl (.negSucc 0, .ofNat 6), .inr (.inr (some 82)), .inr (.inr (some 83)), .inr (.inr (some 84)), .inr (.inr (some 85)), .inr (.inr (some 86)), .inl am_top, .inr (.inr (some 87))]))))])), fun v => (42, [(0, .inr (.inr (some 70))), (1, .inl (v 0))], [], (80, [(62, .inr (.inr (.inr (7, [.inr (.inr (some 71)), .inr (.inr (some 72)), .inl (.ofNat 2, .ofNat 5), .inl (.ofNat 2, .ofNat 5), .inl (.ofNat 0, .ofNat 5), .inr (.inr (some 73)), .inl (v 1), .inl (v 2), .inl (.ofNat 0, .ofNat 5), .inl am_top, .inl am_top, .inl am_top, .inr (.inr (some 74)), .inl (.ofNat 0, .ofNat 160), .inl (v 3), .inl (.ofNat 0, .ofNat 160), .inl (v 4), .inl am_top, .inl (v 5), .inl am_top, .inr (.inr (some 75)), .inr (.inr (some 76)), .inr (.inr (some 77)), .inr (.inr (some 78)), .inr (.inr (some 79)), .inr (.inr (some 80)), .inr (.inr (some 81)), .inl (.negSucc 0, .ofNat 6), .inr (.inr (some 82)), .inr (.inr (some 83)), .inr (.inr (some 84)), .inr (.inr (some 85)), .inr (.inr (some 86)), .inl am_top, .inr (.inr (some 87))]))))])), fun v => (50, [(0, .inr (.inr (some 70))), (1, .inl (v 0)), (2, .inl (.ofNat 0, .ofNat 24))], [], (80, [(62, .inr (.inr (.inr (7, [.inr (.inr (some 71)), .inr (.inr (some 72)), .inl (.ofNat 2, .ofNat 5), .inl (.ofNat 2, .ofNat 5), .inl (.ofNat 0, .ofNat 5), .inr (.inr (some 73)), .inl (v 1), .inl (v 2), .inl (.ofNat 0, .ofNat 5), .inl am_top, .inl am_top, .inl am_top, .inr (.inr (some 74)), .inl (.ofNat 0, .ofNat 160), .inl (v 3), .inl (.ofNat 0, .ofNat 160), .inl (v 4), .inl am_top, .inl (v 5), .inl am_top, .inr (.inr (some 75)), .inr (.inr (some 76)), .inr (.inr (some 77)), .inr (.inr (some 78)), .inr (.inr (some 79)), .inr (.inr (some 80)), .inr (.inr (some 81)), .inl (.negSucc 0, .ofNat 6), .inr (.inr (some 82)), .inr (.inr (some 83)), .inr (.inr (some 84)), .inr (.inr (some 85)), .inr (.inr (some 86)), .inl am_top, .inr (.inr (some 87))]))))]))]
noncomputable def vd_F_readGoal_0_0 (s : Nat) : List (List Nat) := [[980857282955007361024, 3906314129132093441, 303771990257369090, 1000016420369202348034, 70387872443594621545807875, 16103679295750148, 4197132983355834372, 289175427039133257760771], [293786738356079592407043, 17511054179303428, 4195444133495570436, 1129591511871614091268, 3906313029620465665, 303771985962401794, 1000016138894225637378, 70387872443313146569097219], [16103679278972932, 4197132983339057156, 289175427039128962793475, 293786738074604615696387, 17511054162526212, 4195444133478793220, 1129591511871597314052, 3906311930108837889], [303771981667434498, 1000015857419248926722, 70387872443031671592386563, 16103679262195716, 4197132983322279940, 289175427039124667826179, 293786737793129638985731, 17511054145748996], [4195444133462016004, 1129591511871580536836, 3906310830597210113, 303771977372467202, 1000015575944272216066, 70387872442750196615675907, 16103679245418500, 4197132983305502724], [289175427039120372858883, 293786737511654662275075, 17511054128971780, 4195444133445238788, 1129591511871563759620, 3906309731085582337, 303771973161385986, 1000015298867342016514], [70387872442470920662220803, 16103679228641284, 4197132983288725508, 293786737233478220447747, 17511054112194564, 4195444133428461572, 4050766862982643713, 4050766862982643714], [289175427039116027559939, 1129591511871546982404]]
noncomputable def vd_F_readGoal_0 (s : Nat) : List (List (List Nat)) := [vd_F_readGoal_0_0 s]
noncomputable def vd_F_readGoal (s : Nat) : List (List (List (List Nat))) := [vd_F_readGoal_0 s]
noncomputable def vt_F_readGoal (s : Nat) : List (List am_I) := [[(.ofNat 2, .ofNat 5), (.ofNat 0, .ofNat 5), (.ofNat 2, .ofNat 3), (.ofNat (s + 1), .ofNat 160), (.ofNat 1, .ofNat 3), (.ofNat 0, .ofNat 160), (.ofNat 0, .ofNat 3), (.ofNat 1, .ofNat 6)], [(.ofNat (s + 0), .ofNat 160), (.ofNat (s + 2), .ofNat 160)]]
noncomputable def vc_F_readGoal (s : Nat) : vm_C := (fun _ => vp_F_readGoal s, fun pc => (match Nat.beq pc 7 with
  | true => [(fun _ _ => some (.inl 1), fun _ _ => some [.ofNat 0, .ofNat 1, .ofNat 2, .ofNat 3, .ofNat 4])]
  | false => []), [7, 38, 42, 50], 58, vm_inst 8 54 (vt_F_readGoal s) (vf_F_readGoal s) (vd_F_readGoal s))
noncomputable def ve_F_readGoal (s : Nat) : List vm_E := [([.inr (.inr (some 70))], (80, [(62, .inr (.inr (.inr (7, [.inr (.inr (some 71)), .inr (.inr (some 72)), .inl (.ofNat 2, .ofNat 5), .inl (.ofNat 2, .ofNat 5), .inl (.ofNat 0, .ofNat 5), .inr (.inr (some 73)), .inl (.ofNat 2, .ofNat 5), .inl (.ofNat 2, .ofNat 5), .inl (.ofNat 0, .ofNat 5), .inl am_top, .inl am_top, .inl am_top, .inr (.inr (some 74)), .inl (.ofNat 0, .ofNat 160), .inl (.ofNat (s + 0), .ofNat 160), .inl (.ofNat 0, .ofNat 160), .inl (.ofNat 0, .ofNat 3), .inl am_top, .inl (.ofNat 0, .ofNat 0), .inl am_top, .inr (.inr (some 75)), .inr (.inr (some 76)), .inr (.inr (some 77)), .inr (.inr (some 78)), .inr (.inr (some 79)), .inr (.inr (some 80)), .inr (.inr (some 81)), .inl (.negSucc 0, .ofNat 6), .inr (.inr (some 82)), .inr (.inr (some 83)), .inr (.inr (some 84)), .inr (.inr (some 85)), .inr (.inr (some 86)), .inl am_top, .inr (.inr (some 87))]))))]), 0, [0])]
noncomputable def q_F_readGoal (s : Nat) : vm_Q := (163, [.inr (.inr (some 70))], (80, [(62, .inr (.inr (.inr (7, [.inr (.inr (some 71)), .inr (.inr (some 72)), .inl (.ofNat 2, .ofNat 5), .inl (.ofNat 2, .ofNat 5), .inl (.ofNat 0, .ofNat 5), .inr (.inr (some 73)), .inl (.ofNat 2, .ofNat 5), .inl (.ofNat 2, .ofNat 5), .inl (.ofNat 0, .ofNat 5), .inl am_top, .inl am_top, .inl am_top, .inr (.inr (some 74)), .inl (.ofNat 0, .ofNat 160), .inl (.ofNat (s + 0), .ofNat 160), .inl (.ofNat 0, .ofNat 160), .inl (.ofNat 0, .ofNat 3), .inl am_top, .inl (.ofNat 0, .ofNat 0), .inl am_top, .inr (.inr (some 75)), .inr (.inr (some 76)), .inr (.inr (some 77)), .inr (.inr (some 78)), .inr (.inr (some 79)), .inr (.inr (some 80)), .inr (.inr (some 81)), .inl (.negSucc 0, .ofNat 6), .inr (.inr (some 82)), .inr (.inr (some 83)), .inr (.inr (some 84)), .inr (.inr (some 85)), .inr (.inr (some 86)), .inl am_top, .inr (.inr (some 87))]))))]), vp_F_readGoal s)
theorem vx_F_readGoal_0 : vm_rng (fun s => vm_chk bt_163 [] (vk_F_readGoal s) 29 (vc_F_readGoal s) 0 58 && (vm_ents 163 29 (vc_F_readGoal s) (ve_F_readGoal s) && vm_kok (vk_F_readGoal s))) 1 1 = true := by decide +kernel
theorem vx_F_readGoal_1 : vm_rng (fun s => vm_chk bt_163 [] (vk_F_readGoal s) 29 (vc_F_readGoal s) 0 58 && (vm_ents 163 29 (vc_F_readGoal s) (ve_F_readGoal s) && vm_kok (vk_F_readGoal s))) 2 1 = true := by decide +kernel
theorem vx_F_readGoal_2 : vm_rng (fun s => vm_chk bt_163 [] (vk_F_readGoal s) 29 (vc_F_readGoal s) 0 58 && (vm_ents 163 29 (vc_F_readGoal s) (ve_F_readGoal s) && vm_kok (vk_F_readGoal s))) 3 1 = true := by decide +kernel
theorem vx_F_readGoal_3 : vm_rng (fun s => vm_chk bt_163 [] (vk_F_readGoal s) 29 (vc_F_readGoal s) 0 58 && (vm_ents 163 29 (vc_F_readGoal s) (ve_F_readGoal s) && vm_kok (vk_F_readGoal s))) 4 1 = true := by decide +kernel
theorem vx_F_readGoal_4 : vm_rng (fun s => vm_chk bt_163 [] (vk_F_readGoal s) 29 (vc_F_readGoal s) 0 58 && (vm_ents 163 29 (vc_F_readGoal s) (ve_F_readGoal s) && vm_kok (vk_F_readGoal s))) 5 1 = true := by decide +kernel
theorem vx_F_readGoal_5 : vm_rng (fun s => vm_chk bt_163 [] (vk_F_readGoal s) 29 (vc_F_readGoal s) 0 58 && (vm_ents 163 29 (vc_F_readGoal s) (ve_F_readGoal s) && vm_kok (vk_F_readGoal s))) 6 1 = true := by decide +kernel
theorem vx_F_readGoal_6 : vm_rng (fun s => vm_chk bt_163 [] (vk_F_readGoal s) 29 (vc_F_readGoal s) 0 58 && (vm_ents 163 29 (vc_F_readGoal s) (ve_F_readGoal s) && vm_kok (vk_F_readGoal s))) 7 1 = true := by decide +kernel
theorem vx_F_readGoal_7 : vm_rng (fun s => vm_chk bt_163 [] (vk_F_readGoal s) 29 (vc_F_readGoal s) 0 58 && (vm_ents 163 29 (vc_F_readGoal s) (ve_F_readGoal s) && vm_kok (vk_F_readGoal s))) 8 1 = true := by decide +kernel
theorem vx_F_readGoal_8 : vm_rng (fun s => vm_chk bt_163 [] (vk_F_readGoal s) 29 (vc_F_readGoal s) 0 58 && (vm_ents 163 29 (vc_F_readGoal s) (ve_F_readGoal s) && vm_kok (vk_F_readGoal s))) 9 1 = true := by decide +kernel
theorem vx_F_readGoal_9 : vm_rng (fun s => vm_chk bt_163 [] (vk_F_readGoal s) 29 (vc_F_readGoal s) 0 58 && (vm_ents 163 29 (vc_F_readGoal s) (ve_F_readGoal s) && vm_kok (vk_F_readGoal s))) 10 1 = true := by decide +kernel
theorem vx_F_readGoal_10 : vm_rng (fun s => vm_chk bt_163 [] (vk_F_readGoal s) 29 (vc_F_readGoal s) 0 58 && (vm_ents 163 29 (vc_F_readGoal s) (ve_F_readGoal s) && vm_kok (vk_F_readGoal s))) 11 1 = true := by decide +kernel
theorem vx_F_readGoal_11 : vm_rng (fun s => vm_chk bt_163 [] (vk_F_readGoal s) 29 (vc_F_readGoal s) 0 58 && (vm_ents 163 29 (vc_F_readGoal s) (ve_F_readGoal s) && vm_kok (vk_F_readGoal s))) 12 1 = true := by decide +kernel
theorem vx_F_readGoal_12 : vm_rng (fun s => vm_chk bt_163 [] (vk_F_readGoal s) 29 (vc_F_readGoal s) 0 58 && (vm_ents 163 29 (vc_F_readGoal s) (ve_F_readGoal s) && vm_kok (vk_F_readGoal s))) 13 1 = true := by decide +kernel
theorem vx_F_readGoal_13 : vm_rng (fun s => vm_chk bt_163 [] (vk_F_readGoal s) 29 (vc_F_readGoal s) 0 58 && (vm_ents 163 29 (vc_F_readGoal s) (ve_F_readGoal s) && vm_kok (vk_F_readGoal s))) 14 1 = true := by decide +kernel
theorem vx_F_readGoal_14 : vm_rng (fun s => vm_chk bt_163 [] (vk_F_readGoal s) 29 (vc_F_readGoal s) 0 58 && (vm_ents 163 29 (vc_F_readGoal s) (ve_F_readGoal s) && vm_kok (vk_F_readGoal s))) 15 1 = true := by decide +kernel
theorem vx_F_readGoal_15 : vm_rng (fun s => vm_chk bt_163 [] (vk_F_readGoal s) 29 (vc_F_readGoal s) 0 58 && (vm_ents 163 29 (vc_F_readGoal s) (ve_F_readGoal s) && vm_kok (vk_F_readGoal s))) 16 1 = true := by decide +kernel
theorem vx_F_readGoal_16 : vm_rng (fun s => vm_chk bt_163 [] (vk_F_readGoal s) 29 (vc_F_readGoal s) 0 58 && (vm_ents 163 29 (vc_F_readGoal s) (ve_F_readGoal s) && vm_kok (vk_F_readGoal s))) 17 1 = true := by decide +kernel
theorem vx_F_readGoal_17 : vm_rng (fun s => vm_chk bt_163 [] (vk_F_readGoal s) 29 (vc_F_readGoal s) 0 58 && (vm_ents 163 29 (vc_F_readGoal s) (ve_F_readGoal s) && vm_kok (vk_F_readGoal s))) 18 1 = true := by decide +kernel
theorem vx_F_readGoal_18 : vm_rng (fun s => vm_chk bt_163 [] (vk_F_readGoal s) 29 (vc_F_readGoal s) 0 58 && (vm_ents 163 29 (vc_F_readGoal s) (ve_F_readGoal s) && vm_kok (vk_F_readGoal s))) 19 1 = true := by decide +kernel
theorem vx_F_readGoal_19 : vm_rng (fun s => vm_chk bt_163 [] (vk_F_readGoal s) 29 (vc_F_readGoal s) 0 58 && (vm_ents 163 29 (vc_F_readGoal s) (ve_F_readGoal s) && vm_kok (vk_F_readGoal s))) 20 1 = true := by decide +kernel
theorem vx_F_readGoal_20 : vm_rng (fun s => vm_chk bt_163 [] (vk_F_readGoal s) 29 (vc_F_readGoal s) 0 58 && (vm_ents 163 29 (vc_F_readGoal s) (ve_F_readGoal s) && vm_kok (vk_F_readGoal s))) 21 1 = true := by decide +kernel
theorem vx_F_readGoal_21 : vm_rng (fun s => vm_chk bt_163 [] (vk_F_readGoal s) 29 (vc_F_readGoal s) 0 58 && (vm_ents 163 29 (vc_F_readGoal s) (ve_F_readGoal s) && vm_kok (vk_F_readGoal s))) 22 1 = true := by decide +kernel
theorem vx_F_readGoal_22 : vm_rng (fun s => vm_chk bt_163 [] (vk_F_readGoal s) 29 (vc_F_readGoal s) 0 58 && (vm_ents 163 29 (vc_F_readGoal s) (ve_F_readGoal s) && vm_kok (vk_F_readGoal s))) 23 1 = true := by decide +kernel
theorem vx_F_readGoal_23 : vm_rng (fun s => vm_chk bt_163 [] (vk_F_readGoal s) 29 (vc_F_readGoal s) 0 58 && (vm_ents 163 29 (vc_F_readGoal s) (ve_F_readGoal s) && vm_kok (vk_F_readGoal s))) 24 1 = true := by decide +kernel
theorem vx_F_readGoal_24 : vm_rng (fun s => vm_chk bt_163 [] (vk_F_readGoal s) 29 (vc_F_readGoal s) 0 58 && (vm_ents 163 29 (vc_F_readGoal s) (ve_F_readGoal s) && vm_kok (vk_F_readGoal s))) 25 1 = true := by decide +kernel
theorem vx_F_readGoal_25 : vm_rng (fun s => vm_chk bt_163 [] (vk_F_readGoal s) 29 (vc_F_readGoal s) 0 58 && (vm_ents 163 29 (vc_F_readGoal s) (ve_F_readGoal s) && vm_kok (vk_F_readGoal s))) 26 1 = true := by decide +kernel
theorem vx_F_readGoal_26 : vm_rng (fun s => vm_chk bt_163 [] (vk_F_readGoal s) 29 (vc_F_readGoal s) 0 58 && (vm_ents 163 29 (vc_F_readGoal s) (ve_F_readGoal s) && vm_kok (vk_F_readGoal s))) 27 1 = true := by decide +kernel
theorem vx_F_readGoal_27 : vm_rng (fun s => vm_chk bt_163 [] (vk_F_readGoal s) 29 (vc_F_readGoal s) 0 58 && (vm_ents 163 29 (vc_F_readGoal s) (ve_F_readGoal s) && vm_kok (vk_F_readGoal s))) 28 1 = true := by decide +kernel
theorem vx_F_readGoal_28 : vm_rng (fun s => vm_chk bt_163 [] (vk_F_readGoal s) 29 (vc_F_readGoal s) 0 58 && (vm_ents 163 29 (vc_F_readGoal s) (ve_F_readGoal s) && vm_kok (vk_F_readGoal s))) 29 1 = true := by decide +kernel
theorem vx_F_readGoal_29 : vm_rng (fun s => vm_chk bt_163 [] (vk_F_readGoal s) 29 (vc_F_readGoal s) 0 58 && (vm_ents 163 29 (vc_F_readGoal s) (ve_F_readGoal s) && vm_kok (vk_F_readGoal s))) 30 1 = true := by decide +kernel
theorem vx_F_readGoal_30 : vm_rng (fun s => vm_chk bt_163 [] (vk_F_readGoal s) 29 (vc_F_readGoal s) 0 58 && (vm_ents 163 29 (vc_F_readGoal s) (ve_F_readGoal s) && vm_kok (vk_F_readGoal s))) 31 1 = true := by decide +kernel
theorem vx_F_readGoal_31 : vm_rng (fun s => vm_chk bt_163 [] (vk_F_readGoal s) 29 (vc_F_readGoal s) 0 58 && (vm_ents 163 29 (vc_F_readGoal s) (ve_F_readGoal s) && vm_kok (vk_F_readGoal s))) 32 1 = true := by decide +kernel
theorem vx_F_readGoal_32 : vm_rng (fun s => vm_chk bt_163 [] (vk_F_readGoal s) 29 (vc_F_readGoal s) 0 58 && (vm_ents 163 29 (vc_F_readGoal s) (ve_F_readGoal s) && vm_kok (vk_F_readGoal s))) 33 1 = true := by decide +kernel
theorem vx_F_readGoal_33 : vm_rng (fun s => vm_chk bt_163 [] (vk_F_readGoal s) 29 (vc_F_readGoal s) 0 58 && (vm_ents 163 29 (vc_F_readGoal s) (ve_F_readGoal s) && vm_kok (vk_F_readGoal s))) 34 1 = true := by decide +kernel
theorem vx_F_readGoal_34 : vm_rng (fun s => vm_chk bt_163 [] (vk_F_readGoal s) 29 (vc_F_readGoal s) 0 58 && (vm_ents 163 29 (vc_F_readGoal s) (ve_F_readGoal s) && vm_kok (vk_F_readGoal s))) 35 1 = true := by decide +kernel
theorem vx_F_readGoal_35 : vm_rng (fun s => vm_chk bt_163 [] (vk_F_readGoal s) 29 (vc_F_readGoal s) 0 58 && (vm_ents 163 29 (vc_F_readGoal s) (ve_F_readGoal s) && vm_kok (vk_F_readGoal s))) 36 1 = true := by decide +kernel
theorem vx_F_readGoal_36 : vm_rng (fun s => vm_chk bt_163 [] (vk_F_readGoal s) 29 (vc_F_readGoal s) 0 58 && (vm_ents 163 29 (vc_F_readGoal s) (ve_F_readGoal s) && vm_kok (vk_F_readGoal s))) 37 1 = true := by decide +kernel
theorem vx_F_readGoal_37 : vm_rng (fun s => vm_chk bt_163 [] (vk_F_readGoal s) 29 (vc_F_readGoal s) 0 58 && (vm_ents 163 29 (vc_F_readGoal s) (ve_F_readGoal s) && vm_kok (vk_F_readGoal s))) 38 1 = true := by decide +kernel
theorem vx_F_readGoal_38 : vm_rng (fun s => vm_chk bt_163 [] (vk_F_readGoal s) 29 (vc_F_readGoal s) 0 58 && (vm_ents 163 29 (vc_F_readGoal s) (ve_F_readGoal s) && vm_kok (vk_F_readGoal s))) 39 1 = true := by decide +kernel
theorem vx_F_readGoal_39 : vm_rng (fun s => vm_chk bt_163 [] (vk_F_readGoal s) 29 (vc_F_readGoal s) 0 58 && (vm_ents 163 29 (vc_F_readGoal s) (ve_F_readGoal s) && vm_kok (vk_F_readGoal s))) 40 1 = true := by decide +kernel
theorem vx_F_readGoal_40 : vm_rng (fun s => vm_chk bt_163 [] (vk_F_readGoal s) 29 (vc_F_readGoal s) 0 58 && (vm_ents 163 29 (vc_F_readGoal s) (ve_F_readGoal s) && vm_kok (vk_F_readGoal s))) 41 1 = true := by decide +kernel
theorem vx_F_readGoal_41 : vm_rng (fun s => vm_chk bt_163 [] (vk_F_readGoal s) 29 (vc_F_readGoal s) 0 58 && (vm_ents 163 29 (vc_F_readGoal s) (ve_F_readGoal s) && vm_kok (vk_F_readGoal s))) 42 1 = true := by decide +kernel
theorem vx_F_readGoal_42 : vm_rng (fun s => vm_chk bt_163 [] (vk_F_readGoal s) 29 (vc_F_readGoal s) 0 58 && (vm_ents 163 29 (vc_F_readGoal s) (ve_F_readGoal s) && vm_kok (vk_F_readGoal s))) 43 1 = true := by decide +kernel
theorem vx_F_readGoal_43 : vm_rng (fun s => vm_chk bt_163 [] (vk_F_readGoal s) 29 (vc_F_readGoal s) 0 58 && (vm_ents 163 29 (vc_F_readGoal s) (ve_F_readGoal s) && vm_kok (vk_F_readGoal s))) 44 1 = true := by decide +kernel
theorem vx_F_readGoal_44 : vm_rng (fun s => vm_chk bt_163 [] (vk_F_readGoal s) 29 (vc_F_readGoal s) 0 58 && (vm_ents 163 29 (vc_F_readGoal s) (ve_F_readGoal s) && vm_kok (vk_F_readGoal s))) 45 1 = true := by decide +kernel
theorem vx_F_readGoal_45 : vm_rng (fun s => vm_chk bt_163 [] (vk_F_readGoal s) 29 (vc_F_readGoal s) 0 58 && (vm_ents 163 29 (vc_F_readGoal s) (ve_F_readGoal s) && vm_kok (vk_F_readGoal s))) 46 1 = true := by decide +kernel
theorem vx_F_readGoal_46 : vm_rng (fun s => vm_chk bt_163 [] (vk_F_readGoal s) 29 (vc_F_readGoal s) 0 58 && (vm_ents 163 29 (vc_F_readGoal s) (ve_F_readGoal s) && vm_kok (vk_F_readGoal s))) 47 1 = true := by decide +kernel
theorem vx_F_readGoal_47 : vm_rng (fun s => vm_chk bt_163 [] (vk_F_readGoal s) 29 (vc_F_readGoal s) 0 58 && (vm_ents 163 29 (vc_F_readGoal s) (ve_F_readGoal s) && vm_kok (vk_F_readGoal s))) 48 1 = true := by decide +kernel
theorem vx_F_readGoal_48 : vm_rng (fun s => vm_chk bt_163 [] (vk_F_readGoal s) 29 (vc_F_readGoal s) 0 58 && (vm_ents 163 29 (vc_F_readGoal s) (ve_F_readGoal s) && vm_kok (vk_F_readGoal s))) 49 1 = true := by decide +kernel
theorem vx_F_readGoal_49 : vm_rng (fun s => vm_chk bt_163 [] (vk_F_readGoal s) 29 (vc_F_readGoal s) 0 58 && (vm_ents 163 29 (vc_F_readGoal s) (ve_F_readGoal s) && vm_kok (vk_F_readGoal s))) 50 1 = true := by decide +kernel
theorem vx_F_readGoal_50 : vm_rng (fun s => vm_chk bt_163 [] (vk_F_readGoal s) 29 (vc_F_readGoal s) 0 58 && (vm_ents 163 29 (vc_F_readGoal s) (ve_F_readGoal s) && vm_kok (vk_F_readGoal s))) 51 1 = true := by decide +kernel
theorem vx_F_readGoal_51 : vm_rng (fun s => vm_chk bt_163 [] (vk_F_readGoal s) 29 (vc_F_readGoal s) 0 58 && (vm_ents 163 29 (vc_F_readGoal s) (ve_F_readGoal s) && vm_kok (vk_F_readGoal s))) 52 1 = true := by decide +kernel
theorem vx_F_readGoal_52 : vm_rng (fun s => vm_chk bt_163 [] (vk_F_readGoal s) 29 (vc_F_readGoal s) 0 58 && (vm_ents 163 29 (vc_F_readGoal s) (ve_F_readGoal s) && vm_kok (vk_F_readGoal s))) 53 1 = true := by decide +kernel
theorem vx_F_readGoal_53 : vm_rng (fun s => vm_chk bt_163 [] (vk_F_readGoal s) 29 (vc_F_readGoal s) 0 58 && (vm_ents 163 29 (vc_F_readGoal s) (ve_F_readGoal s) && vm_kok (vk_F_readGoal s))) 54 1 = true := by decide +kernel
theorem vx_F_readGoal_54 : vm_rng (fun s => vm_chk bt_163 [] (vk_F_readGoal s) 29 (vc_F_readGoal s) 0 58 && (vm_ents 163 29 (vc_F_readGoal s) (ve_F_readGoal s) && vm_kok (vk_F_readGoal s))) 55 1 = true := by decide +kernel
theorem vx_F_readGoal_55 : vm_rng (fun s => vm_chk bt_163 [] (vk_F_readGoal s) 29 (vc_F_readGoal s) 0 58 && (vm_ents 163 29 (vc_F_readGoal s) (ve_F_readGoal s) && vm_kok (vk_F_readGoal s))) 56 1 = true := by decide +kernel
theorem vx_F_readGoal_56 : vm_rng (fun s => vm_chk bt_163 [] (vk_F_readGoal s) 29 (vc_F_readGoal s) 0 58 && (vm_ents 163 29 (vc_F_readGoal s) (ve_F_readGoal s) && vm_kok (vk_F_readGoal s))) 57 1 = true := by decide +kernel
theorem vx_F_readGoal_57 : vm_rng (fun s => vm_chk bt_163 [] (vk_F_readGoal s) 29 (vc_F_readGoal s) 0 58 && (vm_ents 163 29 (vc_F_readGoal s) (ve_F_readGoal s) && vm_kok (vk_F_readGoal s))) 58 1 = true := by decide +kernel
theorem vx_F_readGoal_58 : vm_rng (fun s => vm_chk bt_163 [] (vk_F_readGoal s) 29 (vc_F_readGoal s) 0 58 && (vm_ents 163 29 (vc_F_readGoal s) (ve_F_readGoal s) && vm_kok (vk_F_readGoal s))) 59 1 = true := by decide +kernel
theorem vx_F_readGoal_59 : vm_rng (fun s => vm_chk bt_163 [] (vk_F_readGoal s) 29 (vc_F_readGoal s) 0 58 && (vm_ents 163 29 (vc_F_readGoal s) (ve_F_readGoal s) && vm_kok (vk_F_readGoal s))) 60 1 = true := by decide +kernel
theorem vx_F_readGoal_60 : vm_rng (fun s => vm_chk bt_163 [] (vk_F_readGoal s) 29 (vc_F_readGoal s) 0 58 && (vm_ents 163 29 (vc_F_readGoal s) (ve_F_readGoal s) && vm_kok (vk_F_readGoal s))) 61 1 = true := by decide +kernel
theorem vx_F_readGoal_61 : vm_rng (fun s => vm_chk bt_163 [] (vk_F_readGoal s) 29 (vc_F_readGoal s) 0 58 && (vm_ents 163 29 (vc_F_readGoal s) (ve_F_readGoal s) && vm_kok (vk_F_readGoal s))) 62 1 = true := by decide +kernel
theorem vx_F_readGoal_62 : vm_rng (fun s => vm_chk bt_163 [] (vk_F_readGoal s) 29 (vc_F_readGoal s) 0 58 && (vm_ents 163 29 (vc_F_readGoal s) (ve_F_readGoal s) && vm_kok (vk_F_readGoal s))) 63 1 = true := by decide +kernel
theorem vx_F_readGoal_63 : vm_rng (fun s => vm_chk bt_163 [] (vk_F_readGoal s) 29 (vc_F_readGoal s) 0 58 && (vm_ents 163 29 (vc_F_readGoal s) (ve_F_readGoal s) && vm_kok (vk_F_readGoal s))) 64 1 = true := by decide +kernel
theorem vx_F_readGoal_64 : vm_rng (fun s => vm_chk bt_163 [] (vk_F_readGoal s) 29 (vc_F_readGoal s) 0 58 && (vm_ents 163 29 (vc_F_readGoal s) (ve_F_readGoal s) && vm_kok (vk_F_readGoal s))) 65 1 = true := by decide +kernel
theorem vx_F_readGoal_65 : vm_rng (fun s => vm_chk bt_163 [] (vk_F_readGoal s) 29 (vc_F_readGoal s) 0 58 && (vm_ents 163 29 (vc_F_readGoal s) (ve_F_readGoal s) && vm_kok (vk_F_readGoal s))) 66 1 = true := by decide +kernel
theorem vx_F_readGoal_66 : vm_rng (fun s => vm_chk bt_163 [] (vk_F_readGoal s) 29 (vc_F_readGoal s) 0 58 && (vm_ents 163 29 (vc_F_readGoal s) (ve_F_readGoal s) && vm_kok (vk_F_readGoal s))) 67 1 = true := by decide +kernel
theorem vx_F_readGoal_67 : vm_rng (fun s => vm_chk bt_163 [] (vk_F_readGoal s) 29 (vc_F_readGoal s) 0 58 && (vm_ents 163 29 (vc_F_readGoal s) (ve_F_readGoal s) && vm_kok (vk_F_readGoal s))) 68 1 = true := by decide +kernel
theorem vx_F_readGoal_68 : vm_rng (fun s => vm_chk bt_163 [] (vk_F_readGoal s) 29 (vc_F_readGoal s) 0 58 && (vm_ents 163 29 (vc_F_readGoal s) (ve_F_readGoal s) && vm_kok (vk_F_readGoal s))) 69 1 = true := by decide +kernel
theorem vx_F_readGoal_69 : vm_rng (fun s => vm_chk bt_163 [] (vk_F_readGoal s) 29 (vc_F_readGoal s) 0 58 && (vm_ents 163 29 (vc_F_readGoal s) (ve_F_readGoal s) && vm_kok (vk_F_readGoal s))) 70 1 = true := by decide +kernel
theorem vx_F_readGoal_70 : vm_rng (fun s => vm_chk bt_163 [] (vk_F_readGoal s) 29 (vc_F_readGoal s) 0 58 && (vm_ents 163 29 (vc_F_readGoal s) (ve_F_readGoal s) && vm_kok (vk_F_readGoal s))) 71 1 = true := by decide +kernel
theorem vx_F_readGoal_71 : vm_rng (fun s => vm_chk bt_163 [] (vk_F_readGoal s) 29 (vc_F_readGoal s) 0 58 && (vm_ents 163 29 (vc_F_readGoal s) (ve_F_readGoal s) && vm_kok (vk_F_readGoal s))) 72 1 = true := by decide +kernel
theorem vx_F_readGoal_72 : vm_rng (fun s => vm_chk bt_163 [] (vk_F_readGoal s) 29 (vc_F_readGoal s) 0 58 && (vm_ents 163 29 (vc_F_readGoal s) (ve_F_readGoal s) && vm_kok (vk_F_readGoal s))) 73 1 = true := by decide +kernel
theorem vx_F_readGoal_73 : vm_rng (fun s => vm_chk bt_163 [] (vk_F_readGoal s) 29 (vc_F_readGoal s) 0 58 && (vm_ents 163 29 (vc_F_readGoal s) (ve_F_readGoal s) && vm_kok (vk_F_readGoal s))) 74 1 = true := by decide +kernel
theorem vx_F_readGoal_74 : vm_rng (fun s => vm_chk bt_163 [] (vk_F_readGoal s) 29 (vc_F_readGoal s) 0 58 && (vm_ents 163 29 (vc_F_readGoal s) (ve_F_readGoal s) && vm_kok (vk_F_readGoal s))) 75 1 = true := by decide +kernel
theorem vx_F_readGoal_75 : vm_rng (fun s => vm_chk bt_163 [] (vk_F_readGoal s) 29 (vc_F_readGoal s) 0 58 && (vm_ents 163 29 (vc_F_readGoal s) (ve_F_readGoal s) && vm_kok (vk_F_readGoal s))) 76 1 = true := by decide +kernel
theorem vx_F_readGoal_76 : vm_rng (fun s => vm_chk bt_163 [] (vk_F_readGoal s) 29 (vc_F_readGoal s) 0 58 && (vm_ents 163 29 (vc_F_readGoal s) (ve_F_readGoal s) && vm_kok (vk_F_readGoal s))) 77 1 = true := by decide +kernel
theorem vx_F_readGoal_77 : vm_rng (fun s => vm_chk bt_163 [] (vk_F_readGoal s) 29 (vc_F_readGoal s) 0 58 && (vm_ents 163 29 (vc_F_readGoal s) (ve_F_readGoal s) && vm_kok (vk_F_readGoal s))) 78 1 = true := by decide +kernel
theorem vx_F_readGoal_78 : vm_rng (fun s => vm_chk bt_163 [] (vk_F_readGoal s) 29 (vc_F_readGoal s) 0 58 && (vm_ents 163 29 (vc_F_readGoal s) (ve_F_readGoal s) && vm_kok (vk_F_readGoal s))) 79 1 = true := by decide +kernel
theorem vx_F_readGoal_79 : vm_rng (fun s => vm_chk bt_163 [] (vk_F_readGoal s) 29 (vc_F_readGoal s) 0 58 && (vm_ents 163 29 (vc_F_readGoal s) (ve_F_readGoal s) && vm_kok (vk_F_readGoal s))) 80 1 = true := by decide +kernel
theorem vx_F_readGoal_80 : vm_rng (fun s => vm_chk bt_163 [] (vk_F_readGoal s) 29 (vc_F_readGoal s) 0 58 && (vm_ents 163 29 (vc_F_readGoal s) (ve_F_readGoal s) && vm_kok (vk_F_readGoal s))) 81 1 = true := by decide +kernel
theorem vx_F_readGoal_81 : vm_rng (fun s => vm_chk bt_163 [] (vk_F_readGoal s) 29 (vc_F_readGoal s) 0 58 && (vm_ents 163 29 (vc_F_readGoal s) (ve_F_readGoal s) && vm_kok (vk_F_readGoal s))) 82 1 = true := by decide +kernel
theorem vx_F_readGoal_82 : vm_rng (fun s => vm_chk bt_163 [] (vk_F_readGoal s) 29 (vc_F_readGoal s) 0 58 && (vm_ents 163 29 (vc_F_readGoal s) (ve_F_readGoal s) && vm_kok (vk_F_readGoal s))) 83 1 = true := by decide +kernel
theorem vx_F_readGoal_83 : vm_rng (fun s => vm_chk bt_163 [] (vk_F_readGoal s) 29 (vc_F_readGoal s) 0 58 && (vm_ents 163 29 (vc_F_readGoal s) (ve_F_readGoal s) && vm_kok (vk_F_readGoal s))) 84 1 = true := by decide +kernel
theorem vx_F_readGoal_84 : vm_rng (fun s => vm_chk bt_163 [] (vk_F_readGoal s) 29 (vc_F_readGoal s) 0 58 && (vm_ents 163 29 (vc_F_readGoal s) (ve_F_readGoal s) && vm_kok (vk_F_readGoal s))) 85 1 = true := by decide +kernel
theorem vx_F_readGoal_85 : vm_rng (fun s => vm_chk bt_163 [] (vk_F_readGoal s) 29 (vc_F_readGoal s) 0 58 && (vm_ents 163 29 (vc_F_readGoal s) (ve_F_readGoal s) && vm_kok (vk_F_readGoal s))) 86 1 = true := by decide +kernel
theorem vx_F_readGoal_86 : vm_rng (fun s => vm_chk bt_163 [] (vk_F_readGoal s) 29 (vc_F_readGoal s) 0 58 && (vm_ents 163 29 (vc_F_readGoal s) (ve_F_readGoal s) && vm_kok (vk_F_readGoal s))) 87 1 = true := by decide +kernel
theorem vx_F_readGoal_87 : vm_rng (fun s => vm_chk bt_163 [] (vk_F_readGoal s) 29 (vc_F_readGoal s) 0 58 && (vm_ents 163 29 (vc_F_readGoal s) (ve_F_readGoal s) && vm_kok (vk_F_readGoal s))) 88 1 = true := by decide +kernel
theorem vx_F_readGoal_88 : vm_rng (fun s => vm_chk bt_163 [] (vk_F_readGoal s) 29 (vc_F_readGoal s) 0 58 && (vm_ents 163 29 (vc_F_readGoal s) (ve_F_readGoal s) && vm_kok (vk_F_readGoal s))) 89 1 = true := by decide +kernel
theorem vx_F_readGoal_89 : vm_rng (fun s => vm_chk bt_163 [] (vk_F_readGoal s) 29 (vc_F_readGoal s) 0 58 && (vm_ents 163 29 (vc_F_readGoal s) (ve_F_readGoal s) && vm_kok (vk_F_readGoal s))) 90 1 = true := by decide +kernel
theorem vx_F_readGoal_90 : vm_rng (fun s => vm_chk bt_163 [] (vk_F_readGoal s) 29 (vc_F_readGoal s) 0 58 && (vm_ents 163 29 (vc_F_readGoal s) (ve_F_readGoal s) && vm_kok (vk_F_readGoal s))) 91 1 = true := by decide +kernel
theorem vx_F_readGoal_91 : vm_rng (fun s => vm_chk bt_163 [] (vk_F_readGoal s) 29 (vc_F_readGoal s) 0 58 && (vm_ents 163 29 (vc_F_readGoal s) (ve_F_readGoal s) && vm_kok (vk_F_readGoal s))) 92 1 = true := by decide +kernel
theorem vx_F_readGoal_92 : vm_rng (fun s => vm_chk bt_163 [] (vk_F_readGoal s) 29 (vc_F_readGoal s) 0 58 && (vm_ents 163 29 (vc_F_readGoal s) (ve_F_readGoal s) && vm_kok (vk_F_readGoal s))) 93 1 = true := by decide +kernel
theorem vx_F_readGoal_93 : vm_rng (fun s => vm_chk bt_163 [] (vk_F_readGoal s) 29 (vc_F_readGoal s) 0 58 && (vm_ents 163 29 (vc_F_readGoal s) (ve_F_readGoal s) && vm_kok (vk_F_readGoal s))) 94 1 = true := by decide +kernel
theorem vx_F_readGoal_94 : vm_rng (fun s => vm_chk bt_163 [] (vk_F_readGoal s) 29 (vc_F_readGoal s) 0 58 && (vm_ents 163 29 (vc_F_readGoal s) (ve_F_readGoal s) && vm_kok (vk_F_readGoal s))) 95 1 = true := by decide +kernel
theorem vx_F_readGoal_95 : vm_rng (fun s => vm_chk bt_163 [] (vk_F_readGoal s) 29 (vc_F_readGoal s) 0 58 && (vm_ents 163 29 (vc_F_readGoal s) (ve_F_readGoal s) && vm_kok (vk_F_readGoal s))) 96 1 = true := by decide +kernel
theorem vx_F_readGoal_96 : vm_rng (fun s => vm_chk bt_163 [] (vk_F_readGoal s) 29 (vc_F_readGoal s) 0 58 && (vm_ents 163 29 (vc_F_readGoal s) (ve_F_readGoal s) && vm_kok (vk_F_readGoal s))) 97 1 = true := by decide +kernel
theorem vx_F_readGoal_97 : vm_rng (fun s => vm_chk bt_163 [] (vk_F_readGoal s) 29 (vc_F_readGoal s) 0 58 && (vm_ents 163 29 (vc_F_readGoal s) (ve_F_readGoal s) && vm_kok (vk_F_readGoal s))) 98 1 = true := by decide +kernel
theorem vx_F_readGoal_98 : vm_rng (fun s => vm_chk bt_163 [] (vk_F_readGoal s) 29 (vc_F_readGoal s) 0 58 && (vm_ents 163 29 (vc_F_readGoal s) (ve_F_readGoal s) && vm_kok (vk_F_readGoal s))) 99 1 = true := by decide +kernel
theorem vx_F_readGoal_99 : vm_rng (fun s => vm_chk bt_163 [] (vk_F_readGoal s) 29 (vc_F_readGoal s) 0 58 && (vm_ents 163 29 (vc_F_readGoal s) (ve_F_readGoal s) && vm_kok (vk_F_readGoal s))) 100 1 = true := by decide +kernel
theorem vx_F_readGoal_100 : vm_rng (fun s => vm_chk bt_163 [] (vk_F_readGoal s) 29 (vc_F_readGoal s) 0 58 && (vm_ents 163 29 (vc_F_readGoal s) (ve_F_readGoal s) && vm_kok (vk_F_readGoal s))) 101 1 = true := by decide +kernel
theorem vx_F_readGoal_101 : vm_rng (fun s => vm_chk bt_163 [] (vk_F_readGoal s) 29 (vc_F_readGoal s) 0 58 && (vm_ents 163 29 (vc_F_readGoal s) (ve_F_readGoal s) && vm_kok (vk_F_readGoal s))) 102 1 = true := by decide +kernel
theorem vx_F_readGoal_102 : vm_rng (fun s => vm_chk bt_163 [] (vk_F_readGoal s) 29 (vc_F_readGoal s) 0 58 && (vm_ents 163 29 (vc_F_readGoal s) (ve_F_readGoal s) && vm_kok (vk_F_readGoal s))) 103 1 = true := by decide +kernel
theorem vx_F_readGoal_103 : vm_rng (fun s => vm_chk bt_163 [] (vk_F_readGoal s) 29 (vc_F_readGoal s) 0 58 && (vm_ents 163 29 (vc_F_readGoal s) (ve_F_readGoal s) && vm_kok (vk_F_readGoal s))) 104 1 = true := by decide +kernel
theorem vx_F_readGoal_104 : vm_rng (fun s => vm_chk bt_163 [] (vk_F_readGoal s) 29 (vc_F_readGoal s) 0 58 && (vm_ents 163 29 (vc_F_readGoal s) (ve_F_readGoal s) && vm_kok (vk_F_readGoal s))) 105 1 = true := by decide +kernel
theorem vx_F_readGoal_105 : vm_rng (fun s => vm_chk bt_163 [] (vk_F_readGoal s) 29 (vc_F_readGoal s) 0 58 && (vm_ents 163 29 (vc_F_readGoal s) (ve_F_readGoal s) && vm_kok (vk_F_readGoal s))) 106 1 = true := by decide +kernel
theorem vx_F_readGoal_106 : vm_rng (fun s => vm_chk bt_163 [] (vk_F_readGoal s) 29 (vc_F_readGoal s) 0 58 && (vm_ents 163 29 (vc_F_readGoal s) (ve_F_readGoal s) && vm_kok (vk_F_readGoal s))) 107 1 = true := by decide +kernel
theorem vx_F_readGoal_107 : vm_rng (fun s => vm_chk bt_163 [] (vk_F_readGoal s) 29 (vc_F_readGoal s) 0 58 && (vm_ents 163 29 (vc_F_readGoal s) (ve_F_readGoal s) && vm_kok (vk_F_readGoal s))) 108 1 = true := by decide +kernel
theorem vx_F_readGoal_108 : vm_rng (fun s => vm_chk bt_163 [] (vk_F_readGoal s) 29 (vc_F_readGoal s) 0 58 && (vm_ents 163 29 (vc_F_readGoal s) (ve_F_readGoal s) && vm_kok (vk_F_readGoal s))) 109 1 = true := by decide +kernel
theorem vx_F_readGoal_109 : vm_rng (fun s => vm_chk bt_163 [] (vk_F_readGoal s) 29 (vc_F_readGoal s) 0 58 && (vm_ents 163 29 (vc_F_readGoal s) (ve_F_readGoal s) && vm_kok (vk_F_readGoal s))) 110 1 = true := by decide +kernel
theorem vx_F_readGoal_110 : vm_rng (fun s => vm_chk bt_163 [] (vk_F_readGoal s) 29 (vc_F_readGoal s) 0 58 && (vm_ents 163 29 (vc_F_readGoal s) (ve_F_readGoal s) && vm_kok (vk_F_readGoal s))) 111 1 = true := by decide +kernel
theorem vx_F_readGoal_111 : vm_rng (fun s => vm_chk bt_163 [] (vk_F_readGoal s) 29 (vc_F_readGoal s) 0 58 && (vm_ents 163 29 (vc_F_readGoal s) (ve_F_readGoal s) && vm_kok (vk_F_readGoal s))) 112 1 = true := by decide +kernel
theorem vx_F_readGoal_112 : vm_rng (fun s => vm_chk bt_163 [] (vk_F_readGoal s) 29 (vc_F_readGoal s) 0 58 && (vm_ents 163 29 (vc_F_readGoal s) (ve_F_readGoal s) && vm_kok (vk_F_readGoal s))) 113 1 = true := by decide +kernel
theorem vx_F_readGoal_113 : vm_rng (fun s => vm_chk bt_163 [] (vk_F_readGoal s) 29 (vc_F_readGoal s) 0 58 && (vm_ents 163 29 (vc_F_readGoal s) (ve_F_readGoal s) && vm_kok (vk_F_readGoal s))) 114 1 = true := by decide +kernel
theorem vx_F_readGoal_114 : vm_rng (fun s => vm_chk bt_163 [] (vk_F_readGoal s) 29 (vc_F_readGoal s) 0 58 && (vm_ents 163 29 (vc_F_readGoal s) (ve_F_readGoal s) && vm_kok (vk_F_readGoal s))) 115 1 = true := by decide +kernel
theorem vx_F_readGoal_115 : vm_rng (fun s => vm_chk bt_163 [] (vk_F_readGoal s) 29 (vc_F_readGoal s) 0 58 && (vm_ents 163 29 (vc_F_readGoal s) (ve_F_readGoal s) && vm_kok (vk_F_readGoal s))) 116 1 = true := by decide +kernel
theorem vx_F_readGoal_116 : vm_rng (fun s => vm_chk bt_163 [] (vk_F_readGoal s) 29 (vc_F_readGoal s) 0 58 && (vm_ents 163 29 (vc_F_readGoal s) (ve_F_readGoal s) && vm_kok (vk_F_readGoal s))) 117 1 = true := by decide +kernel
theorem vx_F_readGoal_117 : vm_rng (fun s => vm_chk bt_163 [] (vk_F_readGoal s) 29 (vc_F_readGoal s) 0 58 && (vm_ents 163 29 (vc_F_readGoal s) (ve_F_readGoal s) && vm_kok (vk_F_readGoal s))) 118 1 = true := by decide +kernel
theorem vx_F_readGoal_118 : vm_rng (fun s => vm_chk bt_163 [] (vk_F_readGoal s) 29 (vc_F_readGoal s) 0 58 && (vm_ents 163 29 (vc_F_readGoal s) (ve_F_readGoal s) && vm_kok (vk_F_readGoal s))) 119 1 = true := by decide +kernel
theorem vx_F_readGoal_119 : vm_rng (fun s => vm_chk bt_163 [] (vk_F_readGoal s) 29 (vc_F_readGoal s) 0 58 && (vm_ents 163 29 (vc_F_readGoal s) (ve_F_readGoal s) && vm_kok (vk_F_readGoal s))) 120 1 = true := by decide +kernel
theorem vx_F_readGoal_120 : vm_rng (fun s => vm_chk bt_163 [] (vk_F_readGoal s) 29 (vc_F_readGoal s) 0 58 && (vm_ents 163 29 (vc_F_readGoal s) (ve_F_readGoal s) && vm_kok (vk_F_readGoal s))) 121 1 = true := by decide +kernel
theorem vx_F_readGoal_121 : vm_rng (fun s => vm_chk bt_163 [] (vk_F_readGoal s) 29 (vc_F_readGoal s) 0 58 && (vm_ents 163 29 (vc_F_readGoal s) (ve_F_readGoal s) && vm_kok (vk_F_readGoal s))) 122 1 = true := by decide +kernel
theorem vx_F_readGoal_122 : vm_rng (fun s => vm_chk bt_163 [] (vk_F_readGoal s) 29 (vc_F_readGoal s) 0 58 && (vm_ents 163 29 (vc_F_readGoal s) (ve_F_readGoal s) && vm_kok (vk_F_readGoal s))) 123 1 = true := by decide +kernel
theorem vx_F_readGoal_123 : vm_rng (fun s => vm_chk bt_163 [] (vk_F_readGoal s) 29 (vc_F_readGoal s) 0 58 && (vm_ents 163 29 (vc_F_readGoal s) (ve_F_readGoal s) && vm_kok (vk_F_readGoal s))) 124 1 = true := by decide +kernel
theorem vx_F_readGoal_124 : vm_rng (fun s => vm_chk bt_163 [] (vk_F_readGoal s) 29 (vc_F_readGoal s) 0 58 && (vm_ents 163 29 (vc_F_readGoal s) (ve_F_readGoal s) && vm_kok (vk_F_readGoal s))) 125 1 = true := by decide +kernel
theorem vx_F_readGoal_125 : vm_rng (fun s => vm_chk bt_163 [] (vk_F_readGoal s) 29 (vc_F_readGoal s) 0 58 && (vm_ents 163 29 (vc_F_readGoal s) (ve_F_readGoal s) && vm_kok (vk_F_readGoal s))) 126 1 = true := by decide +kernel
theorem vx_F_readGoal_126 : vm_rng (fun s => vm_chk bt_163 [] (vk_F_readGoal s) 29 (vc_F_readGoal s) 0 58 && (vm_ents 163 29 (vc_F_readGoal s) (ve_F_readGoal s) && vm_kok (vk_F_readGoal s))) 127 1 = true := by decide +kernel
theorem vx_F_readGoal_127 : vm_rng (fun s => vm_chk bt_163 [] (vk_F_readGoal s) 29 (vc_F_readGoal s) 0 58 && (vm_ents 163 29 (vc_F_readGoal s) (ve_F_readGoal s) && vm_kok (vk_F_readGoal s))) 128 1 = true := by decide +kernel
theorem vx_F_readGoal_128 : vm_rng (fun s => vm_chk bt_163 [] (vk_F_readGoal s) 29 (vc_F_readGoal s) 0 58 && (vm_ents 163 29 (vc_F_readGoal s) (ve_F_readGoal s) && vm_kok (vk_F_readGoal s))) 129 1 = true := by decide +kernel
theorem vx_F_readGoal_129 : vm_rng (fun s => vm_chk bt_163 [] (vk_F_readGoal s) 29 (vc_F_readGoal s) 0 58 && (vm_ents 163 29 (vc_F_readGoal s) (ve_F_readGoal s) && vm_kok (vk_F_readGoal s))) 130 1 = true := by decide +kernel
theorem vx_F_readGoal_130 : vm_rng (fun s => vm_chk bt_163 [] (vk_F_readGoal s) 29 (vc_F_readGoal s) 0 58 && (vm_ents 163 29 (vc_F_readGoal s) (ve_F_readGoal s) && vm_kok (vk_F_readGoal s))) 131 1 = true := by decide +kernel
theorem vx_F_readGoal_131 : vm_rng (fun s => vm_chk bt_163 [] (vk_F_readGoal s) 29 (vc_F_readGoal s) 0 58 && (vm_ents 163 29 (vc_F_readGoal s) (ve_F_readGoal s) && vm_kok (vk_F_readGoal s))) 132 1 = true := by decide +kernel
theorem vx_F_readGoal_132 : vm_rng (fun s => vm_chk bt_163 [] (vk_F_readGoal s) 29 (vc_F_readGoal s) 0 58 && (vm_ents 163 29 (vc_F_readGoal s) (ve_F_readGoal s) && vm_kok (vk_F_readGoal s))) 133 1 = true := by decide +kernel
theorem vx_F_readGoal_133 : vm_rng (fun s => vm_chk bt_163 [] (vk_F_readGoal s) 29 (vc_F_readGoal s) 0 58 && (vm_ents 163 29 (vc_F_readGoal s) (ve_F_readGoal s) && vm_kok (vk_F_readGoal s))) 134 1 = true := by decide +kernel
theorem vx_F_readGoal_134 : vm_rng (fun s => vm_chk bt_163 [] (vk_F_readGoal s) 29 (vc_F_readGoal s) 0 58 && (vm_ents 163 29 (vc_F_readGoal s) (ve_F_readGoal s) && vm_kok (vk_F_readGoal s))) 135 1 = true := by decide +kernel
theorem vx_F_readGoal_135 : vm_rng (fun s => vm_chk bt_163 [] (vk_F_readGoal s) 29 (vc_F_readGoal s) 0 58 && (vm_ents 163 29 (vc_F_readGoal s) (ve_F_readGoal s) && vm_kok (vk_F_readGoal s))) 136 1 = true := by decide +kernel
theorem vx_F_readGoal_136 : vm_rng (fun s => vm_chk bt_163 [] (vk_F_readGoal s) 29 (vc_F_readGoal s) 0 58 && (vm_ents 163 29 (vc_F_readGoal s) (ve_F_readGoal s) && vm_kok (vk_F_readGoal s))) 137 1 = true := by decide +kernel
theorem vx_F_readGoal_137 : vm_rng (fun s => vm_chk bt_163 [] (vk_F_readGoal s) 29 (vc_F_readGoal s) 0 58 && (vm_ents 163 29 (vc_F_readGoal s) (ve_F_readGoal s) && vm_kok (vk_F_readGoal s))) 138 1 = true := by decide +kernel
theorem vx_F_readGoal_138 : vm_rng (fun s => vm_chk bt_163 [] (vk_F_readGoal s) 29 (vc_F_readGoal s) 0 58 && (vm_ents 163 29 (vc_F_readGoal s) (ve_F_readGoal s) && vm_kok (vk_F_readGoal s))) 139 1 = true := by decide +kernel
theorem vx_F_readGoal_139 : vm_rng (fun s => vm_chk bt_163 [] (vk_F_readGoal s) 29 (vc_F_readGoal s) 0 58 && (vm_ents 163 29 (vc_F_readGoal s) (ve_F_readGoal s) && vm_kok (vk_F_readGoal s))) 140 1 = true := by decide +kernel
theorem vx_F_readGoal_140 : vm_rng (fun s => vm_chk bt_163 [] (vk_F_readGoal s) 29 (vc_F_readGoal s) 0 58 && (vm_ents 163 29 (vc_F_readGoal s) (ve_F_readGoal s) && vm_kok (vk_F_readGoal s))) 141 1 = true := by decide +kernel
theorem vx_F_readGoal_141 : vm_rng (fun s => vm_chk bt_163 [] (vk_F_readGoal s) 29 (vc_F_readGoal s) 0 58 && (vm_ents 163 29 (vc_F_readGoal s) (ve_F_readGoal s) && vm_kok (vk_F_readGoal s))) 142 1 = true := by decide +kernel
theorem vx_F_readGoal_142 : vm_rng (fun s => vm_chk bt_163 [] (vk_F_readGoal s) 29 (vc_F_readGoal s) 0 58 && (vm_ents 163 29 (vc_F_readGoal s) (ve_F_readGoal s) && vm_kok (vk_F_readGoal s))) 143 1 = true := by decide +kernel
theorem vx_F_readGoal_143 : vm_rng (fun s => vm_chk bt_163 [] (vk_F_readGoal s) 29 (vc_F_readGoal s) 0 58 && (vm_ents 163 29 (vc_F_readGoal s) (ve_F_readGoal s) && vm_kok (vk_F_readGoal s))) 144 1 = true := by decide +kernel
theorem vx_F_readGoal_144 : vm_rng (fun s => vm_chk bt_163 [] (vk_F_readGoal s) 29 (vc_F_readGoal s) 0 58 && (vm_ents 163 29 (vc_F_readGoal s) (ve_F_readGoal s) && vm_kok (vk_F_readGoal s))) 145 1 = true := by decide +kernel
theorem vx_F_readGoal_145 : vm_rng (fun s => vm_chk bt_163 [] (vk_F_readGoal s) 29 (vc_F_readGoal s) 0 58 && (vm_ents 163 29 (vc_F_readGoal s) (ve_F_readGoal s) && vm_kok (vk_F_readGoal s))) 146 1 = true := by decide +kernel
theorem vx_F_readGoal_146 : vm_rng (fun s => vm_chk bt_163 [] (vk_F_readGoal s) 29 (vc_F_readGoal s) 0 58 && (vm_ents 163 29 (vc_F_readGoal s) (ve_F_readGoal s) && vm_kok (vk_F_readGoal s))) 147 1 = true := by decide +kernel
theorem vx_F_readGoal_147 : vm_rng (fun s => vm_chk bt_163 [] (vk_F_readGoal s) 29 (vc_F_readGoal s) 0 58 && (vm_ents 163 29 (vc_F_readGoal s) (ve_F_readGoal s) && vm_kok (vk_F_readGoal s))) 148 1 = true := by decide +kernel
theorem vx_F_readGoal_148 : vm_rng (fun s => vm_chk bt_163 [] (vk_F_readGoal s) 29 (vc_F_readGoal s) 0 58 && (vm_ents 163 29 (vc_F_readGoal s) (ve_F_readGoal s) && vm_kok (vk_F_readGoal s))) 149 1 = true := by decide +kernel
theorem vx_F_readGoal_149 : vm_rng (fun s => vm_chk bt_163 [] (vk_F_readGoal s) 29 (vc_F_readGoal s) 0 58 && (vm_ents 163 29 (vc_F_readGoal s) (ve_F_readGoal s) && vm_kok (vk_F_readGoal s))) 150 1 = true := by decide +kernel
theorem vx_F_readGoal_150 : vm_rng (fun s => vm_chk bt_163 [] (vk_F_readGoal s) 29 (vc_F_readGoal s) 0 58 && (vm_ents 163 29 (vc_F_readGoal s) (ve_F_readGoal s) && vm_kok (vk_F_readGoal s))) 151 1 = true := by decide +kernel
theorem vx_F_readGoal_151 : vm_rng (fun s => vm_chk bt_163 [] (vk_F_readGoal s) 29 (vc_F_readGoal s) 0 58 && (vm_ents 163 29 (vc_F_readGoal s) (ve_F_readGoal s) && vm_kok (vk_F_readGoal s))) 152 1 = true := by decide +kernel
theorem vx_F_readGoal_152 : vm_rng (fun s => vm_chk bt_163 [] (vk_F_readGoal s) 29 (vc_F_readGoal s) 0 58 && (vm_ents 163 29 (vc_F_readGoal s) (ve_F_readGoal s) && vm_kok (vk_F_readGoal s))) 153 1 = true := by decide +kernel
theorem vx_F_readGoal_153 : vm_rng (fun s => vm_chk bt_163 [] (vk_F_readGoal s) 29 (vc_F_readGoal s) 0 58 && (vm_ents 163 29 (vc_F_readGoal s) (ve_F_readGoal s) && vm_kok (vk_F_readGoal s))) 154 1 = true := by decide +kernel
theorem vx_F_readGoal_154 : vm_rng (fun s => vm_chk bt_163 [] (vk_F_readGoal s) 29 (vc_F_readGoal s) 0 58 && (vm_ents 163 29 (vc_F_readGoal s) (ve_F_readGoal s) && vm_kok (vk_F_readGoal s))) 155 1 = true := by decide +kernel
theorem vx_F_readGoal_155 : vm_rng (fun s => vm_chk bt_163 [] (vk_F_readGoal s) 29 (vc_F_readGoal s) 0 58 && (vm_ents 163 29 (vc_F_readGoal s) (ve_F_readGoal s) && vm_kok (vk_F_readGoal s))) 156 1 = true := by decide +kernel
theorem vx_F_readGoal_156 : vm_rng (fun s => vm_chk bt_163 [] (vk_F_readGoal s) 29 (vc_F_readGoal s) 0 58 && (vm_ents 163 29 (vc_F_readGoal s) (ve_F_readGoal s) && vm_kok (vk_F_readGoal s))) 157 1 = true := by decide +kernel
set_option maxRecDepth 20000 in
theorem vz_F_readGoal (s : Nat) (h1 : 1 ≤ s) (h2 : s < 158) : (vm_chk bt_163 [] (vk_F_readGoal s) 29 (vc_F_readGoal s) 0 58 && (vm_ents 163 29 (vc_F_readGoal s) (ve_F_readGoal s) && vm_kok (vk_F_readGoal s))) = true := by
  by_cases g0 : s < 2
  · exact vm_rng_ok vx_F_readGoal_0 s (by omega) (by omega)
  by_cases g1 : s < 3
  · exact vm_rng_ok vx_F_readGoal_1 s (by omega) (by omega)
  by_cases g2 : s < 4
  · exact vm_rng_ok vx_F_readGoal_2 s (by omega) (by omega)
  by_cases g3 : s < 5
  · exact vm_rng_ok vx_F_readGoal_3 s (by omega) (by omega)
  by_cases g4 : s < 6
  · exact vm_rng_ok vx_F_readGoal_4 s (by omega) (by omega)
  by_cases g5 : s < 7
  · exact vm_rng_ok vx_F_readGoal_5 s (by omega) (by omega)
  by_cases g6 : s < 8
  · exact vm_rng_ok vx_F_readGoal_6 s (by omega) (by omega)
  by_cases g7 : s < 9
  · exact vm_rng_ok vx_F_readGoal_7 s (by omega) (by omega)
  by_cases g8 : s < 10
  · exact vm_rng_ok vx_F_readGoal_8 s (by omega) (by omega)
  by_cases g9 : s < 11
  · exact vm_rng_ok vx_F_readGoal_9 s (by omega) (by omega)
  by_cases g10 : s < 12
  · exact vm_rng_ok vx_F_readGoal_10 s (by omega) (by omega)
  by_cases g11 : s < 13
  · exact vm_rng_ok vx_F_readGoal_11 s (by omega) (by omega)
  by_cases g12 : s < 14
  · exact vm_rng_ok vx_F_readGoal_12 s (by omega) (by omega)
  by_cases g13 : s < 15
  · exact vm_rng_ok vx_F_readGoal_13 s (by omega) (by omega)
  by_cases g14 : s < 16
  · exact vm_rng_ok vx_F_readGoal_14 s (by omega) (by omega)
  by_cases g15 : s < 17
  · exact vm_rng_ok vx_F_readGoal_15 s (by omega) (by omega)
  by_cases g16 : s < 18
  · exact vm_rng_ok vx_F_readGoal_16 s (by omega) (by omega)
  by_cases g17 : s < 19
  · exact vm_rng_ok vx_F_readGoal_17 s (by omega) (by omega)
  by_cases g18 : s < 20
  · exact vm_rng_ok vx_F_readGoal_18 s (by omega) (by omega)
  by_cases g19 : s < 21
  · exact vm_rng_ok vx_F_readGoal_19 s (by omega) (by omega)
  by_cases g20 : s < 22
  · exact vm_rng_ok vx_F_readGoal_20 s (by omega) (by omega)
  by_cases g21 : s < 23
  · exact vm_rng_ok vx_F_readGoal_21 s (by omega) (by omega)
  by_cases g22 : s < 24
  · exact vm_rng_ok vx_F_readGoal_22 s (by omega) (by omega)
  by_cases g23 : s < 25
  · exact vm_rng_ok vx_F_readGoal_23 s (by omega) (by omega)
  by_cases g24 : s < 26
  · exact vm_rng_ok vx_F_readGoal_24 s (by omega) (by omega)
  by_cases g25 : s < 27
  · exact vm_rng_ok vx_F_readGoal_25 s (by omega) (by omega)
  by_cases g26 : s < 28
  · exact vm_rng_ok vx_F_readGoal_26 s (by omega) (by omega)
  by_cases g27 : s < 29
  · exact vm_rng_ok vx_F_readGoal_27 s (by omega) (by omega)
  by_cases g28 : s < 30
  · exact vm_rng_ok vx_F_readGoal_28 s (by omega) (by omega)
  by_cases g29 : s < 31
  · exact vm_rng_ok vx_F_readGoal_29 s (by omega) (by omega)
  by_cases g30 : s < 32
  · exact vm_rng_ok vx_F_readGoal_30 s (by omega) (by omega)
  by_cases g31 : s < 33
  · exact vm_rng_ok vx_F_readGoal_31 s (by omega) (by omega)
  by_cases g32 : s < 34
  · exact vm_rng_ok vx_F_readGoal_32 s (by omega) (by omega)
  by_cases g33 : s < 35
  · exact vm_rng_ok vx_F_readGoal_33 s (by omega) (by omega)
  by_cases g34 : s < 36
  · exact vm_rng_ok vx_F_readGoal_34 s (by omega) (by omega)
  by_cases g35 : s < 37
  · exact vm_rng_ok vx_F_readGoal_35 s (by omega) (by omega)
  by_cases g36 : s < 38
  · exact vm_rng_ok vx_F_readGoal_36 s (by omega) (by omega)
  by_cases g37 : s < 39
  · exact vm_rng_ok vx_F_readGoal_37 s (by omega) (by omega)
  by_cases g38 : s < 40
  · exact vm_rng_ok vx_F_readGoal_38 s (by omega) (by omega)
  by_cases g39 : s < 41
  · exact vm_rng_ok vx_F_readGoal_39 s (by omega) (by omega)
  by_cases g40 : s < 42
  · exact vm_rng_ok vx_F_readGoal_40 s (by omega) (by omega)
  by_cases g41 : s < 43
  · exact vm_rng_ok vx_F_readGoal_41 s (by omega) (by omega)
  by_cases g42 : s < 44
  · exact vm_rng_ok vx_F_readGoal_42 s (by omega) (by omega)
  by_cases g43 : s < 45
  · exact vm_rng_ok vx_F_readGoal_43 s (by omega) (by omega)
  by_cases g44 : s < 46
  · exact vm_rng_ok vx_F_readGoal_44 s (by omega) (by omega)
  by_cases g45 : s < 47
  · exact vm_rng_ok vx_F_readGoal_45 s (by omega) (by omega)
  by_cases g46 : s < 48
  · exact vm_rng_ok vx_F_readGoal_46 s (by omega) (by omega)
  by_cases g47 : s < 49
  · exact vm_rng_ok vx_F_readGoal_47 s (by omega) (by omega)
  by_cases g48 : s < 50
  · exact vm_rng_ok vx_F_readGoal_48 s (by omega) (by omega)
  by_cases g49 : s < 51
  · exact vm_rng_ok vx_F_readGoal_49 s (by omega) (by omega)
  by_cases g50 : s < 52
  · exact vm_rng_ok vx_F_readGoal_50 s (by omega) (by omega)
  by_cases g51 : s < 53
  · exact vm_rng_ok vx_F_readGoal_51 s (by omega) (by omega)
  by_cases g52 : s < 54
  · exact vm_rng_ok vx_F_readGoal_52 s (by omega) (by omega)
  by_cases g53 : s < 55
  · exact vm_rng_ok vx_F_readGoal_53 s (by omega) (by omega)
  by_cases g54 : s < 56
  · exact vm_rng_ok vx_F_readGoal_54 s (by omega) (by omega)
  by_cases g55 : s < 57
  · exact vm_rng_ok vx_F_readGoal_55 s (by omega) (by omega)
  by_cases g56 : s < 58
  · exact vm_rng_ok vx_F_readGoal_56 s (by omega) (by omega)
  by_cases g57 : s < 59
  · exact vm_rng_ok vx_F_readGoal_57 s (by omega) (by omega)
  by_cases g58 : s < 60
  · exact vm_rng_ok vx_F_readGoal_58 s (by omega) (by omega)
  by_cases g59 : s < 61
  · exact vm_rng_ok vx_F_readGoal_59 s (by omega) (by omega)
  by_cases g60 : s < 62
  · exact vm_rng_ok vx_F_readGoal_60 s (by omega) (by omega)
  by_cases g61 : s < 63
  · exact vm_rng_ok vx_F_readGoal_61 s (by omega) (by omega)
  by_cases g62 : s < 64
  · exact vm_rng_ok vx_F_readGoal_62 s (by omega) (by omega)
  by_cases g63 : s < 65
  · exact vm_rng_ok vx_F_readGoal_63 s (by omega) (by omega)
  by_cases g64 : s < 66
  · exact vm_rng_ok vx_F_readGoal_64 s (by omega) (by omega)
  by_cases g65 : s < 67
  · exact vm_rng_ok vx_F_readGoal_65 s (by omega) (by omega)
  by_cases g66 : s < 68
  · exact vm_rng_ok vx_F_readGoal_66 s (by omega) (by omega)
  by_cases g67 : s < 69
  · exact vm_rng_ok vx_F_readGoal_67 s (by omega) (by omega)
  by_cases g68 : s < 70
  · exact vm_rng_ok vx_F_readGoal_68 s (by omega) (by omega)
  by_cases g69 : s < 71
  · exact vm_rng_ok vx_F_readGoal_69 s (by omega) (by omega)
  by_cases g70 : s < 72
  · exact vm_rng_ok vx_F_readGoal_70 s (by omega) (by omega)
  by_cases g71 : s < 73
  · exact vm_rng_ok vx_F_readGoal_71 s (by omega) (by omega)
  by_cases g72 : s < 74
  · exact vm_rng_ok vx_F_readGoal_72 s (by omega) (by omega)
  by_cases g73 : s < 75
  · exact vm_rng_ok vx_F_readGoal_73 s (by omega) (by omega)
  by_cases g74 : s < 76
  · exact vm_rng_ok vx_F_readGoal_74 s (by omega) (by omega)
  by_cases g75 : s < 77
  · exact vm_rng_ok vx_F_readGoal_75 s (by omega) (by omega)
  by_cases g76 : s < 78
  · exact vm_rng_ok vx_F_readGoal_76 s (by omega) (by omega)
  by_cases g77 : s < 79
  · exact vm_rng_ok vx_F_readGoal_77 s (by omega) (by omega)
  by_cases g78 : s < 80
  · exact vm_rng_ok vx_F_readGoal_78 s (by omega) (by omega)
  by_cases g79 : s < 81
  · exact vm_rng_ok vx_F_readGoal_79 s (by omega) (by omega)
  by_cases g80 : s < 82
  · exact vm_rng_ok vx_F_readGoal_80 s (by omega) (by omega)
  by_cases g81 : s < 83
  · exact vm_rng_ok vx_F_readGoal_81 s (by omega) (by omega)
  by_cases g82 : s < 84
  · exact vm_rng_ok vx_F_readGoal_82 s (by omega) (by omega)
  by_cases g83 : s < 85
  · exact vm_rng_ok vx_F_readGoal_83 s (by omega) (by omega)
  by_cases g84 : s < 86
  · exact vm_rng_ok vx_F_readGoal_84 s (by omega) (by omega)
  by_cases g85 : s < 87
  · exact vm_rng_ok vx_F_readGoal_85 s (by omega) (by omega)
  by_cases g86 : s < 88
  · exact vm_rng_ok vx_F_readGoal_86 s (by omega) (by omega)
  by_cases g87 : s < 89
  · exact vm_rng_ok vx_F_readGoal_87 s (by omega) (by omega)
  by_cases g88 : s < 90
  · exact vm_rng_ok vx_F_readGoal_88 s (by omega) (by omega)
  by_cases g89 : s < 91
  · exact vm_rng_ok vx_F_readGoal_89 s (by omega) (by omega)
  by_cases g90 : s < 92
  · exact vm_rng_ok vx_F_readGoal_90 s (by omega) (by omega)
  by_cases g91 : s < 93
  · exact vm_rng_ok vx_F_readGoal_91 s (by omega) (by omega)
  by_cases g92 : s < 94
  · exact vm_rng_ok vx_F_readGoal_92 s (by omega) (by omega)
  by_cases g93 : s < 95
  · exact vm_rng_ok vx_F_readGoal_93 s (by omega) (by omega)
  by_cases g94 : s < 96
  · exact vm_rng_ok vx_F_readGoal_94 s (by omega) (by omega)
  by_cases g95 : s < 97
  · exact vm_rng_ok vx_F_readGoal_95 s (by omega) (by omega)
  by_cases g96 : s < 98
  · exact vm_rng_ok vx_F_readGoal_96 s (by omega) (by omega)
  by_cases g97 : s < 99
  · exact vm_rng_ok vx_F_readGoal_97 s (by omega) (by omega)
  by_cases g98 : s < 100
  · exact vm_rng_ok vx_F_readGoal_98 s (by omega) (by omega)
  by_cases g99 : s < 101
  · exact vm_rng_ok vx_F_readGoal_99 s (by omega) (by omega)
  by_cases g100 : s < 102
  · exact vm_rng_ok vx_F_readGoal_100 s (by omega) (by omega)
  by_cases g101 : s < 103
  · exact vm_rng_ok vx_F_readGoal_101 s (by omega) (by omega)
  by_cases g102 : s < 104
  · exact vm_rng_ok vx_F_readGoal_102 s (by omega) (by omega)
  by_cases g103 : s < 105
  · exact vm_rng_ok vx_F_readGoal_103 s (by omega) (by omega)
  by_cases g104 : s < 106
  · exact vm_rng_ok vx_F_readGoal_104 s (by omega) (by omega)
  by_cases g105 : s < 107
  · exact vm_rng_ok vx_F_readGoal_105 s (by omega) (by omega)
  by_cases g106 : s < 108
  · exact vm_rng_ok vx_F_readGoal_106 s (by omega) (by omega)
  by_cases g107 : s < 109
  · exact vm_rng_ok vx_F_readGoal_107 s (by omega) (by omega)
  by_cases g108 : s < 110
  · exact vm_rng_ok vx_F_readGoal_108 s (by omega) (by omega)
  by_cases g109 : s < 111
  · exact vm_rng_ok vx_F_readGoal_109 s (by omega) (by omega)
  by_cases g110 : s < 112
  · exact vm_rng_ok vx_F_readGoal_110 s (by omega) (by omega)
  by_cases g111 : s < 113
  · exact vm_rng_ok vx_F_readGoal_111 s (by omega) (by omega)
  by_cases g112 : s < 114
  · exact vm_rng_ok vx_F_readGoal_112 s (by omega) (by omega)
  by_cases g113 : s < 115
  · exact vm_rng_ok vx_F_readGoal_113 s (by omega) (by omega)
  by_cases g114 : s < 116
  · exact vm_rng_ok vx_F_readGoal_114 s (by omega) (by omega)
  by_cases g115 : s < 117
  · exact vm_rng_ok vx_F_readGoal_115 s (by omega) (by omega)
  by_cases g116 : s < 118
  · exact vm_rng_ok vx_F_readGoal_116 s (by omega) (by omega)
  by_cases g117 : s < 119
  · exact vm_rng_ok vx_F_readGoal_117 s (by omega) (by omega)
  by_cases g118 : s < 120
  · exact vm_rng_ok vx_F_readGoal_118 s (by omega) (by omega)
  by_cases g119 : s < 121
  · exact vm_rng_ok vx_F_readGoal_119 s (by omega) (by omega)
  by_cases g120 : s < 122
  · exact vm_rng_ok vx_F_readGoal_120 s (by omega) (by omega)
  by_cases g121 : s < 123
  · exact vm_rng_ok vx_F_readGoal_121 s (by omega) (by omega)
  by_cases g122 : s < 124
  · exact vm_rng_ok vx_F_readGoal_122 s (by omega) (by omega)
  by_cases g123 : s < 125
  · exact vm_rng_ok vx_F_readGoal_123 s (by omega) (by omega)
  by_cases g124 : s < 126
  · exact vm_rng_ok vx_F_readGoal_124 s (by omega) (by omega)
  by_cases g125 : s < 127
  · exact vm_rng_ok vx_F_readGoal_125 s (by omega) (by omega)
  by_cases g126 : s < 128
  · exact vm_rng_ok vx_F_readGoal_126 s (by omega) (by omega)
  by_cases g127 : s < 129
  · exact vm_rng_ok vx_F_readGoal_127 s (by omega) (by omega)
  by_cases g128 : s < 130
  · exact vm_rng_ok vx_F_readGoal_128 s (by omega) (by omega)
  by_cases g129 : s < 131
  · exact vm_rng_ok vx_F_readGoal_129 s (by omega) (by omega)
  by_cases g130 : s < 132
  · exact vm_rng_ok vx_F_readGoal_130 s (by omega) (by omega)
  by_cases g131 : s < 133
  · exact vm_rng_ok vx_F_readGoal_131 s (by omega) (by omega)
  by_cases g132 : s < 134
  · exact vm_rng_ok vx_F_readGoal_132 s (by omega) (by omega)
  by_cases g133 : s < 135
  · exact vm_rng_ok vx_F_readGoal_133 s (by omega) (by omega)
  by_cases g134 : s < 136
  · exact vm_rng_ok vx_F_readGoal_134 s (by omega) (by omega)
  by_cases g135 : s < 137
  · exact vm_rng_ok vx_F_readGoal_135 s (by omega) (by omega)
  by_cases g136 : s < 138
  · exact vm_rng_ok vx_F_readGoal_136 s (by omega) (by omega)
  by_cases g137 : s < 139
  · exact vm_rng_ok vx_F_readGoal_137 s (by omega) (by omega)
  by_cases g138 : s < 140
  · exact vm_rng_ok vx_F_readGoal_138 s (by omega) (by omega)
  by_cases g139 : s < 141
  · exact vm_rng_ok vx_F_readGoal_139 s (by omega) (by omega)
  by_cases g140 : s < 142
  · exact vm_rng_ok vx_F_readGoal_140 s (by omega) (by omega)
  by_cases g141 : s < 143
  · exact vm_rng_ok vx_F_readGoal_141 s (by omega) (by omega)
  by_cases g142 : s < 144
  · exact vm_rng_ok vx_F_readGoal_142 s (by omega) (by omega)
  by_cases g143 : s < 145
  · exact vm_rng_ok vx_F_readGoal_143 s (by omega) (by omega)
  by_cases g144 : s < 146
  · exact vm_rng_ok vx_F_readGoal_144 s (by omega) (by omega)
  by_cases g145 : s < 147
  · exact vm_rng_ok vx_F_readGoal_145 s (by omega) (by omega)
  by_cases g146 : s < 148
  · exact vm_rng_ok vx_F_readGoal_146 s (by omega) (by omega)
  by_cases g147 : s < 149
  · exact vm_rng_ok vx_F_readGoal_147 s (by omega) (by omega)
  by_cases g148 : s < 150
  · exact vm_rng_ok vx_F_readGoal_148 s (by omega) (by omega)
  by_cases g149 : s < 151
  · exact vm_rng_ok vx_F_readGoal_149 s (by omega) (by omega)
  by_cases g150 : s < 152
  · exact vm_rng_ok vx_F_readGoal_150 s (by omega) (by omega)
  by_cases g151 : s < 153
  · exact vm_rng_ok vx_F_readGoal_151 s (by omega) (by omega)
  by_cases g152 : s < 154
  · exact vm_rng_ok vx_F_readGoal_152 s (by omega) (by omega)
  by_cases g153 : s < 155
  · exact vm_rng_ok vx_F_readGoal_153 s (by omega) (by omega)
  by_cases g154 : s < 156
  · exact vm_rng_ok vx_F_readGoal_154 s (by omega) (by omega)
  by_cases g155 : s < 157
  · exact vm_rng_ok vx_F_readGoal_155 s (by omega) (by omega)
  exact vm_rng_ok vx_F_readGoal_156 s (by omega) (by omega)
theorem v_F_readGoal (s : Nat) (h1 : 1 ≤ s) (h2 : s < 158) : vm_at 5 (q_F_readGoal s) := by
  have h := vz_F_readGoal s h1 h2
  rw [Bool.and_eq_true, Bool.and_eq_true] at h
  exact vm_ok (inl := []) (es := ve_F_readGoal s) bq_163 (by decide) (vm_wts (L := 4) (vm_kc (vm_up (vj_898 (s + 0) (by omega)) rfl) (vm_kc (vm_up v_899 rfl) (vm_kc (vm_up v_842 rfl) (vm_kc (vm_up v_844 rfl) (vm_kc (vm_up v_921 rfl) (vm_kc (vm_up (v_F_rn_0_24 (s + 1) (by omega) (by omega)) rfl) (vm_kc (vm_up (v_F_rn_0_24 (s + 0) (by omega) (by omega)) rfl) (vm_kc (vm_up v_871 rfl) vm_kn)))))))) h.2.2) h.2.1 (fun i => vm_hc h.1 rfl (fun h => absurd h (Nat.not_lt_zero _))) _ List.mem_cons_self
