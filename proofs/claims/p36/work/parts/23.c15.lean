noncomputable def vp_F_readLine (s : Nat) : List vm_R := [(none, (80, [(62, .inr (.inr (.inr (7, [.inr (.inr (some 71)), .inr (.inr (some 72)), .inl (.ofNat 2, .ofNat 5), .inl (.ofNat 2, .ofNat 5), .inl (.ofNat 0, .ofNat 5), .inr (.inr (some 73)), .inl (.ofNat 0, .ofNat 5), .inl (.ofNat 0, .ofNat 5), .inl (.ofNat 0, .ofNat 5), .inl am_top, .inl am_top, .inl am_top, .inr (.inr (some 74)), .inl (.ofNat 0, .ofNat 160), .inl (.ofNat 0, .ofNat 160), .inl (.ofNat 0, .ofNat 160), .inl (.ofNat 0, .ofNat 3), .inl am_top, .inl (.ofNat 1, .ofNat 6), .inl am_top, .inr (.inr (some 75)), .inr (.inr (some 76)), .inr (.inr (some 77)), .inr (.inr (some 78)), .inr (.inr (some 79)), .inr (.inr (some 80)), .inr (.inr (some 81)), .inl (.negSucc 0, .ofNat 6), .inr (.inr (some 82)), .inr (.inr (some 83)), .inr (.inr (some 84)), .inr (.inr (some 85)), .inr (.inr (some 86)), .inl am_top, .inr (.inr (some 87))]))))])), (none, (80, [(62, .inr (.inr (.inr (7, [.inr (.inr (some 71)), .inr (.inr (some 72)), .inl (.ofNat 2, .ofNat 5), .inl (.ofNat 2, .ofNat 5), .inl (.ofNat 0, .ofNat 5), .inr (.inr (some 73)), .inl (.ofNat 2, .ofNat 5), .inl (.ofNat 2, .ofNat 5), .inl (.ofNat 0, .ofNat 5), .inl am_top, .inl am_top, .inl am_top, .inr (.inr (some 74)), .inl (.ofNat 0, .ofNat 160), .inl (.ofNat (s + 1), .ofNat 160), .inl (.ofNat 0, .ofNat 160), .inl (.ofNat 0, .ofNat 0), .inl am_top, .inl (.ofNat 0, .ofNat 0), .inl am_top, .inr (.inr (some 75)), .inr (.inr (some 76)), .inr (.inr (some 77)), .inr (.inr (some 78)), .inr (.inr (some 79)), .inr (.inr (some 80)), .inr (.inr (some 81)), .inl (.negSucc 0, .ofNat 6), .inr (.inr (some 82)), .inr (.inr (some 83)), .inr (.inr (some 84)), .inr (.inr (some 85)), .inr (.inr (some 86)), .inl am_top, .inr (.inr (some 87))]))))])), (none, (80, [(62, .inr (.inr (.inr (7, [.inr (.inr (some 71)), .inr (.inr (some 72)), .inl (.ofNat 2, .ofNat 5), .inl (.ofNat 2, .ofNat 5), .inl (.ofNat 0, .ofNat 5), .inr (.inr (some 73)), .inl (.ofNat 2, .ofNat 5), .inl (.ofNat 2, .ofNat 5), .inl (.ofNat 0, .ofNat 5), .inl am_top, .inl am_top, .inl am_top, .inr (.inr (some 74)), .inl (.ofNat 0, .ofNat 160), .inl (.ofNat (s + 2), .ofNat 160), .inl (.ofNat 0, .ofNat 160), .inl (.ofNat 1, .ofNat 3), .inl am_top, .inl (.ofNat 0, .ofNat 0), .inl am_top, .inr (.inr (some 75)), .inr (.inr (some 76)), .inr (.inr (some 77)), .inr (.inr (some 78)), .inr (.inr (some 79)), .inr (.inr (some 80)), .inr (.inr (some 81)), .inl (.negSucc 0, .ofNat 6), .inr (.inr (some 82)), .inr (.inr (some 83)), .inr (.inr (some 84)), .inr (.inr (some 85)), .inr (.inr (some 86)), .inl am_top, .inr (.inr (some 87))]))))]))]
noncomputable def vk_F_readLine (s : Nat) : List vm_U := [((qj_898 (s + 2)), false, [(7, 62, 6), (7, 62, 7)]), ((qj_898 (s + 1)), false, [(7, 62, 6), (7, 62, 7)]), ((qj_898 (s + 0)), false, [(7, 62, 6), (7, 62, 7), (7, 62, 8)]), (q_899, false, [(7, 62, 8)]), (q_830, false, [(7, 62, 8), (7, 62, 14), (7, 62, 16)]), (q_832, false, [(7, 62, 8), (7, 62, 14), (7, 62, 16)]), (q_842, false, [(7, 62, 8), (7, 62, 14), (7, 62, 16)]), (q_844, false, [(7, 62, 8), (7, 62, 14), (7, 62, 16)]), (q_848, false, [(7, 62, 8), (7, 62, 14), (7, 62, 16)]), (q_850, false, [(7, 62, 8), (7, 62, 14), (7, 62, 16)]), (q_851, false, [(7, 62, 6), (7, 62, 7), (7, 62, 8), (7, 62, 14), (7, 62, 16)]), (q_917, true, []), ((q_F_rlo_0 (s + 1)), false, []), ((q_F_rlo_1 (s + 1)), false, []), ((q_F_rlo_2 (s + 1)), false, []), ((q_F_rlo_3 (s + 1)), false, []), ((q_F_rlo_6 (s + 1)), false, []), ((q_F_rlo_4 (s + 1)), false, []), ((q_F_rlo_5 (s + 1)), false, []), ((q_F_rlo_0 (s + 0)), false, []), ((q_F_rlo_1 (s + 0)), false, []), ((q_F_rlo_2 (s + 0)), false, []), ((q_F_rlo_3 (s + 0)), false, []), ((q_F_rlo_6 (s + 0)), false, []), ((q_F_rlo_4 (s + 0)), false, []), ((q_F_rlo_5 (s + 0)), false, [])]
noncomputable def vf_F_readLine (s : Nat) : List ((Nat → am_I) → vm_A) := [fun v => (0, [(0, .inr (.inr (some 70)))], [], (80, [(62, .inr (.inr (.inr (7, [.inr (.inr (some 71)), .inr (.inr (some 72)), .inl (.ofNat 2, .ofNat 5), .inl (.ofNat 2, .ofNat 5), .inl (.ofNat 0, .ofNat 5), .inr (.inr (some 73)), .inl (.ofNat 2, .ofNat 5), .inl (.ofNat 2, .ofNat 5), .inl (v 0), .inl am_top, .inl am_top, .inl am_top, .inr (.inr (some 74)), .inl (.ofNat 0, .ofNat 160), .inl (.ofNat (s + 0), .ofNat 160), .inl (.ofNat 0, .ofNat 160), .inl (.ofNat 1, .ofNat 3), .inl am_top, .inl (.ofNat 0, .ofNat 0), .inl am_top, .inr (.inr (some 75)), .inr (.inr (some 76)), .inr (.inr (some 77)), .inr (.inr (some 78)), .inr (.inr (some 79)), .inr (.inr (some 80)), .inr (.inr (some 81)), .inl (.negSucc 0, .ofNat 6), .inr (.inr (some 82)), .inr (.inr (some 83)), .inr (.inr (some 84)), .inr (.inr (some 85)), .inr (.inr (some 86)), .inl am_top, .inr (.inr (some 87))]))))])), fun v => (18, [(0, .inr (.inr (some 70))), (1, .inl (v 0))], [], (80, [(62, .inr (.inr (.inr (7, [.inr (.inr (some 71)), .inr (.inr (some 72)), .inl (.ofNat 2, .ofNat 5), .inl (.ofNat 2, .ofNat 5), .inl (.ofNat 0, .ofNat 5), .inr (.inr (some 73)), .inl (.ofNat 2, .ofNat 5), .inl (.ofNat 2, .ofNat 5), .inl (v 1), .inl am_top, .inl am_top, .inl am_top, .inr (.inr (some 74)), .inl (.ofNat 0, .ofNat 160), .inl (.ofNat (s + 0), .ofNat 160), .inl (.ofNat 0, .ofNat 160), .inl (.ofNat 1, .ofNat 3), .inl am_top, .inl (.ofNat 0, .ofNat 0), .inl am_top, .inr (.inr (some 75)), .inr (.inr (some 76)), .inr (.inr (some 77)), .inr (.inr (some 78)), .inr (.inr (some 79)), .inr (.inr (some 80)), .inr (.inr (some 81)), .inl (.negSucc 0, .ofNat 6), .inr (.inr (some 82)), .inr (.inr (some 83)), .inr (.inr (some 84)), .inr (.inr (some 85)), .inr (.inr (some 86)), .inl am_top, .inr (.inr (some 87))]))))])), fun v => (62, [(0, .inr (.inr (some 70))), (1, .inl (v 0))], [], (80, [(62, .inr (.inr (.inr (7, [.inr (.inr (some 71)), .inr (.inr (some 72)), .inl (.ofNat 2, .ofNat 5), .inl (.ofNat 2, .ofNat 5), .inl (.ofNat 0, .ofNat 5), .inr (.inr (some 73)), .inl (v 1), .inl (v 2), .inl (v 3), .inl am_top, .inl am_top, .inl am_top, .inr (.inr (some 74)), .inl (.ofNat 0, .ofNat 160), .inl (.ofNat (s + 0), .ofNat 160), .inl (.ofNat 0, .ofNat 160), .inl (.ofNat 1, .ofNat 3), .inl am_top, .inl (v 4), .inl am_top, .inr (.inr (some 75)), .inr (.inr (some 76)), .inr (.inr (some 77)), .inr (.inr (some 78)), .inr (.inr (some 79)), .inr (.inr (some 80)), .inr (.inr (some 81)), .inl (.negSucc 0, .ofNat 6), .inr (.inr (some 82)), .inr (.inr (some 83)), .inr (.inr (some 84)), .inr (.inr (some 85)), .inr (.inr (some 86)), .inl am_top, .inr (.inr (some 87))]))))])), fun v => (107, [(0, .inr (.inr (some 70))), (1, .inl (v 0))], [], (80, [(62, .inr (.inr (.inr (7, [.inr (.inr (some 71)), .inr (.inr (some 72)), .inl (.ofNat 2, .ofNat 5), .inl (.ofNat 2, .ofNat 5), .inl (.ofNat 0, .ofNat 5), .inr (.inr (some 73)), .inl (v 1), .inl (v 2), .inl (v 3), .inl am_top, .inl am_top, .inl am_top, .inr (.inr (some 74)), .inl (.ofNat 0, .ofNat 160), .inl (.ofNat (s + 0), .ofNat 160), .inl (.ofNat 0, .ofNat 160), .inl (.ofNat 1, .ofNat 3), .inl am_top, .inl (v 4), .inl am_top, .inr (.inr (some 75)), .inr (.inr (some 76)), .inr (.inr (some 77)), .inr (.inr (some 78)), .inr (.inr (some 79)), .inr (.inr (some 80)), .inr (.inr (some 81)), .inl (.negSucc 0, .ofNat 6), .inr (.inr (some 82)), .inr (.inr (some 83)), .inr (.inr (some 84)), .inr (.inr (some 85)), .inr (.inr (some 86)), .inl am_top, .inr (.inr (some 87))]))))])), fun v => (111, [(0, .inr (.inr (some 70))), (1, .inl (v 0))], [], (80, [(62, .inr (.inr (.inr (7, [.inr (.inr (some 71)), .inr (.inr (some 72)), .inl (.ofNat 2, .ofNat 5), .inl (.ofNat 2, .ofNat 5), .inl (.ofNat 0, .ofNat 5), .inr (.inr (some 73)), .inl (v 1), .inl (v 2), .inl (v 3), .inl am_top, .inl am_top, .inl am_top, .inr (.inr (some 74)), .inl (.ofNat 0, .ofNat 160), .inl (v 4), .inl (.ofNat 0, .ofNat 160), .inl (v 5), .inl am_top, .inl (v 6), .inl am_top, .inr (.inr (some 75)), .inr (.inr (some 76)), .inr (.inr (some 77)), .inr (.inr (some 78)), .inr (.inr (some 79)), .inr (.inr (some 80)), .inr (.inr (some 81)), .inl (.negSucc 0, .ofNat 6), .inr (.inr (some 82)), .inr (.inr (some 83)), .inr (.inr (some 84)), .inr (.inr (some 85)), .inr (.inr (some 86)), .inl am_top, .inr (.inr (some 87))]))))])), fun v => (124, [(0, .inr (.inr (some 70))), (1, .inl am_top)], [], (80, [(62, .inr (.inr (.inr (7, [.inr (.inr (some 71)), .inr (.inr (some 72)), .inl (.ofNat 2, .ofNat 5), .inl (.ofNat 2, .ofNat 5), .inl (.ofNat 0, .ofNat 5), .inr (.inr (some 73)), .inl (v 0), .inl (v 1), .inl (.ofNat 0, .ofNat 5), .inl am_top, .inl am_top, .inl am_top, .inr (.inr (some 74)), .inl (.ofNat 0, .ofNat 160), .inl (v 2), .inl (.ofNat 0, .ofNat 160), .inl (v 3), .inl am_top, .inl (v 4), .inl am_top, .inr (.inr (some 75)), .inr (.inr (some 76)), .inr (.inr (some 77)), .inr (.inr (some 78)), .inr (.inr (some 79)), .inr (.inr (some 80)), .inr (.inr (some 81)), .inl (.negSucc 0, .ofNat 6), .inr (.inr (some 82)), .inr (.inr (some 83)), .inr (.inr (some 84)), .inr (.inr (some 85)), .inr (.inr (some 86)), .inl am_top, .inr (.inr (some 87))]))))])), fun v => (149, [(0, .inr (.inr (some 70))), (1, .inl am_top)], [], (80, [(62, .inr (.inr (.inr (7, [.inr (.inr (some 71)), .inr (.inr (some 72)), .inl (.ofNat 2, .ofNat 5), .inl (.ofNat 2, .ofNat 5), .inl (.ofNat 0, .ofNat 5), .inr (.inr (some 73)), .inl (v 0), .inl (v 1), .inl (.ofNat 0, .ofNat 5), .inl am_top, .inl am_top, .inl am_top, .inr (.inr (some 74)), .inl (.ofNat 0, .ofNat 160), .inl (v 2), .inl (.ofNat 0, .ofNat 160), .inl (v 3), .inl am_top, .inl (v 4), .inl am_top, .inr (.inr (some 75)), .inr (.inr (some 76)), .inr (.inr (some 77)), .inr (.inr (some 78)), .inr (.inr (some 79)), .inr (.inr (some 80)), .inr (.inr (some 81)), .inl (.negSucc 0, .ofNat 6), .inr (.inr (some 82)), .inr (.inr (some 83)), .inr (.inr (some 84)), .inr (.inr (some 85)), .inr (.inr (some 86)), .inl am_top, .inr (.inr (some 87))]))))]))]
noncomputable def vd_F_readLine_0_0 (s : Nat) : List (List Nat) := [[1593525308956360063740018688, 5501853171713, 99684645580862259202, 74176652016143630339, 25519269269804511592451, 33243067707032450990744993796, 497866959547673970999300, 133007359426984976427712516], [5506148139009, 99684646680373886978, 74176652020438597635, 25519269551279488303107, 33243067707032724738958098436, 497866959547673987776516, 133007359427258724640817156, 5510443106305], [389393155373465602, 25519269832754465013763, 33243067707032999590994575364, 497866959547674004553732, 133007359427533576677294084, 5514738073601, 92623396102704529410, 92623396102704529411], [497866959547674021330948, 5519033040897, 92623396106999496706, 92623396106999496707, 497866959547674038108164, 5523328008193, 389393168258367490, 25519270677179395145731], [33243067707033828562397495300, 497866959547674054885380, 133007359428362548080214020, 5935644868609, 1937297803894566486018, 1937297803894566486019, 497866959547675665498116, 5497558204417], [99684644481350631426, 74176652011848663043, 25519268988329534881795, 33243067707032127570480136196, 497866959547673954222084, 133007359426661556162854916, 31308940918480968139512741888, 111054969438209], [1870572076656979214338, 81094181043784712195, 478866451625290452107267, 33243521054214755700810383364, 497866986569271735222276, 133460706609289686493102084, 111059264405505, 1870572077756490842114], [81094181048079679491, 478866451906765428817923, 33243521054215029449023488004, 497866986569271751999492, 133460706609563434706206724, 111063559372801, 7306922183014547458, 478866452188240405528579]]
noncomputable def vd_F_readLine_0_1 (s : Nat) : List (List Nat) := [[33243521054215304301059964932, 497866986569271768776708, 133460706609838286742683652, 111067854340097, 7306922187309514754, 478866452469715382239235, 33243521054215579153096441860, 497866986569271785553924], [133460706610113138779160580, 111072149307393, 7306922191604482050, 478866452751190358949891, 33243521054215854005132918788, 497866986569271802331140, 133460706610387990815637508, 111076444274689], [7306922195899449346, 478866453032665335660547, 33243521054216128857169395716, 497866986569271819108356, 133460706610662842852114436, 111488761135105, 1944215332922207567874, 1944215332922207567875], [497866986569273429721092, 111050674470913, 1870572075557467586562, 81094181039573630979, 478866451349334508371971, 33243521054214427865252036612, 1981829114001725980677, 174355504796008454], [30240312408408070, 29950039610687493, 144232184729829382, 497866986569271718445060, 133460706608956331817893892, 1981468826031536340997, 174350007237869574, 30234814850269190], [31075939517530117, 144236582776340486, 1944792919583007768581, 7596847342121123846]]
noncomputable def vd_F_readLine_0 (s : Nat) : List (List (List Nat)) := [vd_F_readLine_0_0 s, vd_F_readLine_0_1 s]
noncomputable def vd_F_readLine (s : Nat) : List (List (List (List Nat))) := [vd_F_readLine_0 s]
noncomputable def vt_F_readLine (s : Nat) : List (List am_I) := [[(.ofNat 0, .ofNat 4), (.negSucc 3, .negSucc 3), (.ofNat 2, .ofNat 5), (.ofNat 0, .ofNat 5), (.ofNat 1, .ofNat 6), (.ofNat (s + 1), .ofNat 160), (.ofNat 1, .ofNat 3), (.ofNat 0, .ofNat 160)], [(.ofNat 0, .ofNat 3), (.ofNat (s + 0), .ofNat 160), (.ofNat (s + 2), .ofNat 160)]]
noncomputable def vc_F_readLine (s : Nat) : vm_C := (fun _ => vp_F_readLine s, fun pc => (match Nat.beq pc 0 with
  | true => [(fun _ _ => some (.inr (62, 8)), fun _ _ => some [.ofNat 5])]
  | false => (match Nat.beq pc 18 with
  | true => [(fun _ _ => some (.inl 1), fun _ _ => some [.ofNat 0, .ofNat 1, .ofNat 2, .ofNat 3, .ofNat 4, .ofNat 5, .ofNat 6, .ofNat 7])]
  | false => [])), [18, 62, 107, 111, 124, 149], 108, vm_inst 8 101 (vt_F_readLine s) (vf_F_readLine s) (vd_F_readLine s))
noncomputable def ve_F_readLine (s : Nat) : List vm_E := [([.inr (.inr (some 70))], (80, [(62, .inr (.inr (.inr (7, [.inr (.inr (some 71)), .inr (.inr (some 72)), .inl (.ofNat 2, .ofNat 5), .inl (.ofNat 2, .ofNat 5), .inl (.ofNat 0, .ofNat 5), .inr (.inr (some 73)), .inl (.ofNat 2, .ofNat 5), .inl (.ofNat 2, .ofNat 5), .inl (.ofNat 0, .ofNat 5), .inl am_top, .inl am_top, .inl am_top, .inr (.inr (some 74)), .inl (.ofNat 0, .ofNat 160), .inl (.ofNat (s + 0), .ofNat 160), .inl (.ofNat 0, .ofNat 160), .inl (.ofNat 1, .ofNat 3), .inl am_top, .inl (.ofNat 0, .ofNat 0), .inl am_top, .inr (.inr (some 75)), .inr (.inr (some 76)), .inr (.inr (some 77)), .inr (.inr (some 78)), .inr (.inr (some 79)), .inr (.inr (some 80)), .inr (.inr (some 81)), .inl (.negSucc 0, .ofNat 6), .inr (.inr (some 82)), .inr (.inr (some 83)), .inr (.inr (some 84)), .inr (.inr (some 85)), .inr (.inr (some 86)), .inl am_top, .inr (.inr (some 87))]))))]), 0, [0, 46])]
noncomputable def q_F_readLine (s : Nat) : vm_Q := (155, [.inr (.inr (some 70))], (80, [(62, .inr (.inr (.inr (7, [.inr (.inr (some 71)), .inr (.inr (some 72)), .inl (.ofNat 2, .ofNat 5), .inl (.ofNat 2, .ofNat 5), .inl (.ofNat 0, .ofNat 5), .inr (.inr (some 73)), .inl (.ofNat 2, .ofNat 5), .inl (.ofNat 2, .ofNat 5), .inl (.ofNat 0, .ofNat 5), .inl am_top, .inl am_top, .inl am_top, .inr (.inr (some 74)), .inl (.ofNat 0, .ofNat 160), .inl (.ofNat (s + 0), .ofNat 160), .inl (.ofNat 0, .ofNat 160), .inl (.ofNat 1, .ofNat 3), .inl am_top, .inl (.ofNat 0, .ofNat 0), .inl am_top, .inr (.inr (some 75)), .inr (.inr (some 76)), .inr (.inr (some 77)), .inr (.inr (some 78)), .inr (.inr (some 79)), .inr (.inr (some 80)), .inr (.inr (some 81)), .inl (.negSucc 0, .ofNat 6), .inr (.inr (some 82)), .inr (.inr (some 83)), .inr (.inr (some 84)), .inr (.inr (some 85)), .inr (.inr (some 86)), .inl am_top, .inr (.inr (some 87))]))))]), vp_F_readLine s)
theorem vx_F_readLine_0 : vm_rng (fun s => vm_chk bt_155 [] (vk_F_readLine s) 29 (vc_F_readLine s) 0 108 && (vm_ents 155 29 (vc_F_readLine s) (ve_F_readLine s) && vm_kok (vk_F_readLine s))) 1 1 = true := by decide +kernel
theorem vx_F_readLine_1 : vm_rng (fun s => vm_chk bt_155 [] (vk_F_readLine s) 29 (vc_F_readLine s) 0 108 && (vm_ents 155 29 (vc_F_readLine s) (ve_F_readLine s) && vm_kok (vk_F_readLine s))) 2 1 = true := by decide +kernel
theorem vx_F_readLine_2 : vm_rng (fun s => vm_chk bt_155 [] (vk_F_readLine s) 29 (vc_F_readLine s) 0 108 && (vm_ents 155 29 (vc_F_readLine s) (ve_F_readLine s) && vm_kok (vk_F_readLine s))) 3 1 = true := by decide +kernel
theorem vx_F_readLine_3 : vm_rng (fun s => vm_chk bt_155 [] (vk_F_readLine s) 29 (vc_F_readLine s) 0 108 && (vm_ents 155 29 (vc_F_readLine s) (ve_F_readLine s) && vm_kok (vk_F_readLine s))) 4 1 = true := by decide +kernel
theorem vx_F_readLine_4 : vm_rng (fun s => vm_chk bt_155 [] (vk_F_readLine s) 29 (vc_F_readLine s) 0 108 && (vm_ents 155 29 (vc_F_readLine s) (ve_F_readLine s) && vm_kok (vk_F_readLine s))) 5 1 = true := by decide +kernel
theorem vx_F_readLine_5 : vm_rng (fun s => vm_chk bt_155 [] (vk_F_readLine s) 29 (vc_F_readLine s) 0 108 && (vm_ents 155 29 (vc_F_readLine s) (ve_F_readLine s) && vm_kok (vk_F_readLine s))) 6 1 = true := by decide +kernel
theorem vx_F_readLine_6 : vm_rng (fun s => vm_chk bt_155 [] (vk_F_readLine s) 29 (vc_F_readLine s) 0 108 && (vm_ents 155 29 (vc_F_readLine s) (ve_F_readLine s) && vm_kok (vk_F_readLine s))) 7 1 = true := by decide +kernel
theorem vx_F_readLine_7 : vm_rng (fun s => vm_chk bt_155 [] (vk_F_readLine s) 29 (vc_F_readLine s) 0 108 && (vm_ents 155 29 (vc_F_readLine s) (ve_F_readLine s) && vm_kok (vk_F_readLine s))) 8 1 = true := by decide +kernel
theorem vx_F_readLine_8 : vm_rng (fun s => vm_chk bt_155 [] (vk_F_readLine s) 29 (vc_F_readLine s) 0 108 && (vm_ents 155 29 (vc_F_readLine s) (ve_F_readLine s) && vm_kok (vk_F_readLine s))) 9 1 = true := by decide +kernel
theorem vx_F_readLine_9 : vm_rng (fun s => vm_chk bt_155 [] (vk_F_readLine s) 29 (vc_F_readLine s) 0 108 && (vm_ents 155 29 (vc_F_readLine s) (ve_F_readLine s) && vm_kok (vk_F_readLine s))) 10 1 = true := by decide +kernel
theorem vx_F_readLine_10 : vm_rng (fun s => vm_chk bt_155 [] (vk_F_readLine s) 29 (vc_F_readLine s) 0 108 && (vm_ents 155 29 (vc_F_readLine s) (ve_F_readLine s) && vm_kok (vk_F_readLine s))) 11 1 = true := by decide +kernel
theorem vx_F_readLine_11 : vm_rng (fun s => vm_chk bt_155 [] (vk_F_readLine s) 29 (vc_F_readLine s) 0 108 && (vm_ents 155 29 (vc_F_readLine s) (ve_F_readLine s) && vm_kok (vk_F_readLine s))) 12 1 = true := by decide +kernel
theorem vx_F_readLine_12 : vm_rng (fun s => vm_chk bt_155 [] (vk_F_readLine s) 29 (vc_F_readLine s) 0 108 && (vm_ents 155 29 (vc_F_readLine s) (ve_F_readLine s) && vm_kok (vk_F_readLine s))) 13 1 = true := by decide +kernel
theorem vx_F_readLine_13 : vm_rng (fun s => vm_chk bt_155 [] (vk_F_readLine s) 29 (vc_F_readLine s) 0 108 && (vm_ents 155 29 (vc_F_readLine s) (ve_F_readLine s) && vm_kok (vk_F_readLine s))) 14 1 = true := by decide +kernel
theorem vx_F_readLine_14 : vm_rng (fun s => vm_chk bt_155 [] (vk_F_readLine s) 29 (vc_F_readLine s) 0 108 && (vm_ents 155 29 (vc_F_readLine s) (ve_F_readLine s) && vm_kok (vk_F_readLine s))) 15 1 = true := by decide +kernel
theorem vx_F_readLine_15 : vm_rng (fun s => vm_chk bt_155 [] (vk_F_readLine s) 29 (vc_F_readLine s) 0 108 && (vm_ents 155 29 (vc_F_readLine s) (ve_F_readLine s) && vm_kok (vk_F_readLine s))) 16 1 = true := by decide +kernel
theorem vx_F_readLine_16 : vm_rng (fun s => vm_chk bt_155 [] (vk_F_readLine s) 29 (vc_F_readLine s) 0 108 && (vm_ents 155 29 (vc_F_readLine s) (ve_F_readLine s) && vm_kok (vk_F_readLine s))) 17 1 = true := by decide +kernel
theorem vx_F_readLine_17 : vm_rng (fun s => vm_chk bt_155 [] (vk_F_readLine s) 29 (vc_F_readLine s) 0 108 && (vm_ents 155 29 (vc_F_readLine s) (ve_F_readLine s) && vm_kok (vk_F_readLine s))) 18 1 = true := by decide +kernel
theorem vx_F_readLine_18 : vm_rng (fun s => vm_chk bt_155 [] (vk_F_readLine s) 29 (vc_F_readLine s) 0 108 && (vm_ents 155 29 (vc_F_readLine s) (ve_F_readLine s) && vm_kok (vk_F_readLine s))) 19 1 = true := by decide +kernel
theorem vx_F_readLine_19 : vm_rng (fun s => vm_chk bt_155 [] (vk_F_readLine s) 29 (vc_F_readLine s) 0 108 && (vm_ents 155 29 (vc_F_readLine s) (ve_F_readLine s) && vm_kok (vk_F_readLine s))) 20 1 = true := by decide +kernel
theorem vx_F_readLine_20 : vm_rng (fun s => vm_chk bt_155 [] (vk_F_readLine s) 29 (vc_F_readLine s) 0 108 && (vm_ents 155 29 (vc_F_readLine s) (ve_F_readLine s) && vm_kok (vk_F_readLine s))) 21 1 = true := by decide +kernel
theorem vx_F_readLine_21 : vm_rng (fun s => vm_chk bt_155 [] (vk_F_readLine s) 29 (vc_F_readLine s) 0 108 && (vm_ents 155 29 (vc_F_readLine s) (ve_F_readLine s) && vm_kok (vk_F_readLine s))) 22 1 = true := by decide +kernel
theorem vx_F_readLine_22 : vm_rng (fun s => vm_chk bt_155 [] (vk_F_readLine s) 29 (vc_F_readLine s) 0 108 && (vm_ents 155 29 (vc_F_readLine s) (ve_F_readLine s) && vm_kok (vk_F_readLine s))) 23 1 = true := by decide +kernel
theorem vx_F_readLine_23 : vm_rng (fun s => vm_chk bt_155 [] (vk_F_readLine s) 29 (vc_F_readLine s) 0 108 && (vm_ents 155 29 (vc_F_readLine s) (ve_F_readLine s) && vm_kok (vk_F_readLine s))) 24 1 = true := by decide +kernel
theorem vx_F_readLine_24 : vm_rng (fun s => vm_chk bt_155 [] (vk_F_readLine s) 29 (vc_F_readLine s) 0 108 && (vm_ents 155 29 (vc_F_readLine s) (ve_F_readLine s) && vm_kok (vk_F_readLine s))) 25 1 = true := by decide +kernel
theorem vx_F_readLine_25 : vm_rng (fun s => vm_chk bt_155 [] (vk_F_readLine s) 29 (vc_F_readLine s) 0 108 && (vm_ents 155 29 (vc_F_readLine s) (ve_F_readLine s) && vm_kok (vk_F_readLine s))) 26 1 = true := by decide +kernel
theorem vx_F_readLine_26 : vm_rng (fun s => vm_chk bt_155 [] (vk_F_readLine s) 29 (vc_F_readLine s) 0 108 && (vm_ents 155 29 (vc_F_readLine s) (ve_F_readLine s) && vm_kok (vk_F_readLine s))) 27 1 = true := by decide +kernel
theorem vx_F_readLine_27 : vm_rng (fun s => vm_chk bt_155 [] (vk_F_readLine s) 29 (vc_F_readLine s) 0 108 && (vm_ents 155 29 (vc_F_readLine s) (ve_F_readLine s) && vm_kok (vk_F_readLine s))) 28 1 = true := by decide +kernel
theorem vx_F_readLine_28 : vm_rng (fun s => vm_chk bt_155 [] (vk_F_readLine s) 29 (vc_F_readLine s) 0 108 && (vm_ents 155 29 (vc_F_readLine s) (ve_F_readLine s) && vm_kok (vk_F_readLine s))) 29 1 = true := by decide +kernel
theorem vx_F_readLine_29 : vm_rng (fun s => vm_chk bt_155 [] (vk_F_readLine s) 29 (vc_F_readLine s) 0 108 && (vm_ents 155 29 (vc_F_readLine s) (ve_F_readLine s) && vm_kok (vk_F_readLine s))) 30 1 = true := by decide +kernel
theorem vx_F_readLine_30 : vm_rng (fun s => vm_chk bt_155 [] (vk_F_readLine s) 29 (vc_F_readLine s) 0 108 && (vm_ents 155 29 (vc_F_readLine s) (ve_F_readLine s) && vm_kok (vk_F_readLine s))) 31 1 = true := by decide +kernel
theorem vx_F_readLine_31 : vm_rng (fun s => vm_chk bt_155 [] (vk_F_readLine s) 29 (vc_F_readLine s) 0 108 && (vm_ents 155 29 (vc_F_readLine s) (ve_F_readLine s) && vm_kok (vk_F_readLine s))) 32 1 = true := by decide +kernel
theorem vx_F_readLine_32 : vm_rng (fun s => vm_chk bt_155 [] (vk_F_readLine s) 29 (vc_F_readLine s) 0 108 && (vm_ents 155 29 (vc_F_readLine s) (ve_F_readLine s) && vm_kok (vk_F_readLine s))) 33 1 = true := by decide +kernel
theorem vx_F_readLine_33 : vm_rng (fun s => vm_chk bt_155 [] (vk_F_readLine s) 29 (vc_F_readLine s) 0 108 && (vm_ents 155 29 (vc_F_readLine s) (ve_F_readLine s) && vm_kok (vk_F_readLine s))) 34 1 = true := by decide +kernel
theorem vx_F_readLine_34 : vm_rng (fun s => vm_chk bt_155 [] (vk_F_readLine s) 29 (vc_F_readLine s) 0 108 && (vm_ents 155 29 (vc_F_readLine s) (ve_F_readLine s) && vm_kok (vk_F_readLine s))) 35 1 = true := by decide +kernel
theorem vx_F_readLine_35 : vm_rng (fun s => vm_chk bt_155 [] (vk_F_readLine s) 29 (vc_F_readLine s) 0 108 && (vm_ents 155 29 (vc_F_readLine s) (ve_F_readLine s) && vm_kok (vk_F_readLine s))) 36 1 = true := by decide +kernel
theorem vx_F_readLine_36 : vm_rng (fun s => vm_chk bt_155 [] (vk_F_readLine s) 29 (vc_F_readLine s) 0 108 && (vm_ents 155 29 (vc_F_readLine s) (ve_F_readLine s) && vm_kok (vk_F_readLine s))) 37 1 = true := by decide +kernel
theorem vx_F_readLine_37 : vm_rng (fun s => vm_chk bt_155 [] (vk_F_readLine s) 29 (vc_F_readLine s) 0 108 && (vm_ents 155 29 (vc_F_readLine s) (ve_F_readLine s) && vm_kok (vk_F_readLine s))) 38 1 = true := by decide +kernel
theorem vx_F_readLine_38 : vm_rng (fun s => vm_chk bt_155 [] (vk_F_readLine s) 29 (vc_F_readLine s) 0 108 && (vm_ents 155 29 (vc_F_readLine s) (ve_F_readLine s) && vm_kok (vk_F_readLine s))) 39 1 = true := by decide +kernel
theorem vx_F_readLine_39 : vm_rng (fun s => vm_chk bt_155 [] (vk_F_readLine s) 29 (vc_F_readLine s) 0 108 && (vm_ents 155 29 (vc_F_readLine s) (ve_F_readLine s) && vm_kok (vk_F_readLine s))) 40 1 = true := by decide +kernel
theorem vx_F_readLine_40 : vm_rng (fun s => vm_chk bt_155 [] (vk_F_readLine s) 29 (vc_F_readLine s) 0 108 && (vm_ents 155 29 (vc_F_readLine s) (ve_F_readLine s) && vm_kok (vk_F_readLine s))) 41 1 = true := by decide +kernel
theorem vx_F_readLine_41 : vm_rng (fun s => vm_chk bt_155 [] (vk_F_readLine s) 29 (vc_F_readLine s) 0 108 && (vm_ents 155 29 (vc_F_readLine s) (ve_F_readLine s) && vm_kok (vk_F_readLine s))) 42 1 = true := by decide +kernel
theorem vx_F_readLine_42 : vm_rng (fun s => vm_chk bt_155 [] (vk_F_readLine s) 29 (vc_F_readLine s) 0 108 && (vm_ents 155 29 (vc_F_readLine s) (ve_F_readLine s) && vm_kok (vk_F_readLine s))) 43 1 = true := by decide +kernel
theorem vx_F_readLine_43 : vm_rng (fun s => vm_chk bt_155 [] (vk_F_readLine s) 29 (vc_F_readLine s) 0 108 && (vm_ents 155 29 (vc_F_readLine s) (ve_F_readLine s) && vm_kok (vk_F_readLine s))) 44 1 = true := by decide +kernel
theorem vx_F_readLine_44 : vm_rng (fun s => vm_chk bt_155 [] (vk_F_readLine s) 29 (vc_F_readLine s) 0 108 && (vm_ents 155 29 (vc_F_readLine s) (ve_F_readLine s) && vm_kok (vk_F_readLine s))) 45 1 = true := by decide +kernel
theorem vx_F_readLine_45 : vm_rng (fun s => vm_chk bt_155 [] (vk_F_readLine s) 29 (vc_F_readLine s) 0 108 && (vm_ents 155 29 (vc_F_readLine s) (ve_F_readLine s) && vm_kok (vk_F_readLine s))) 46 1 = true := by decide +kernel
theorem vx_F_readLine_46 : vm_rng (fun s => vm_chk bt_155 [] (vk_F_readLine s) 29 (vc_F_readLine s) 0 108 && (vm_ents 155 29 (vc_F_readLine s) (ve_F_readLine s) && vm_kok (vk_F_readLine s))) 47 1 = true := by decide +kernel
theorem vx_F_readLine_47 : vm_rng (fun s => vm_chk bt_155 [] (vk_F_readLine s) 29 (vc_F_readLine s) 0 108 && (vm_ents 155 29 (vc_F_readLine s) (ve_F_readLine s) && vm_kok (vk_F_readLine s))) 48 1 = true := by decide +kernel
theorem vx_F_readLine_48 : vm_rng (fun s => vm_chk bt_155 [] (vk_F_readLine s) 29 (vc_F_readLine s) 0 108 && (vm_ents 155 29 (vc_F_readLine s) (ve_F_readLine s) && vm_kok (vk_F_readLine s))) 49 1 = true := by decide +kernel
theorem vx_F_readLine_49 : vm_rng (fun s => vm_chk bt_155 [] (vk_F_readLine s) 29 (vc_F_readLine s) 0 108 && (vm_ents 155 29 (vc_F_readLine s) (ve_F_readLine s) && vm_kok (vk_F_readLine s))) 50 1 = true := by decide +kernel
theorem vx_F_readLine_50 : vm_rng (fun s => vm_chk bt_155 [] (vk_F_readLine s) 29 (vc_F_readLine s) 0 108 && (vm_ents 155 29 (vc_F_readLine s) (ve_F_readLine s) && vm_kok (vk_F_readLine s))) 51 1 = true := by decide +kernel
theorem vx_F_readLine_51 : vm_rng (fun s => vm_chk bt_155 [] (vk_F_readLine s) 29 (vc_F_readLine s) 0 108 && (vm_ents 155 29 (vc_F_readLine s) (ve_F_readLine s) && vm_kok (vk_F_readLine s))) 52 1 = true := by decide +kernel
theorem vx_F_readLine_52 : vm_rng (fun s => vm_chk bt_155 [] (vk_F_readLine s) 29 (vc_F_readLine s) 0 108 && (vm_ents 155 29 (vc_F_readLine s) (ve_F_readLine s) && vm_kok (vk_F_readLine s))) 53 1 = true := by decide +kernel
theorem vx_F_readLine_53 : vm_rng (fun s => vm_chk bt_155 [] (vk_F_readLine s) 29 (vc_F_readLine s) 0 108 && (vm_ents 155 29 (vc_F_readLine s) (ve_F_readLine s) && vm_kok (vk_F_readLine s))) 54 1 = true := by decide +kernel
theorem vx_F_readLine_54 : vm_rng (fun s => vm_chk bt_155 [] (vk_F_readLine s) 29 (vc_F_readLine s) 0 108 && (vm_ents 155 29 (vc_F_readLine s) (ve_F_readLine s) && vm_kok (vk_F_readLine s))) 55 1 = true := by decide +kernel
theorem vx_F_readLine_55 : vm_rng (fun s => vm_chk bt_155 [] (vk_F_readLine s) 29 (vc_F_readLine s) 0 108 && (vm_ents 155 29 (vc_F_readLine s) (ve_F_readLine s) && vm_kok (vk_F_readLine s))) 56 1 = true := by decide +kernel
theorem vx_F_readLine_56 : vm_rng (fun s => vm_chk bt_155 [] (vk_F_readLine s) 29 (vc_F_readLine s) 0 108 && (vm_ents 155 29 (vc_F_readLine s) (ve_F_readLine s) && vm_kok (vk_F_readLine s))) 57 1 = true := by decide +kernel
theorem vx_F_readLine_57 : vm_rng (fun s => vm_chk bt_155 [] (vk_F_readLine s) 29 (vc_F_readLine s) 0 108 && (vm_ents 155 29 (vc_F_readLine s) (ve_F_readLine s) && vm_kok (vk_F_readLine s))) 58 1 = true := by decide +kernel
theorem vx_F_readLine_58 : vm_rng (fun s => vm_chk bt_155 [] (vk_F_readLine s) 29 (vc_F_readLine s) 0 108 && (vm_ents 155 29 (vc_F_readLine s) (ve_F_readLine s) && vm_kok (vk_F_readLine s))) 59 1 = true := by decide +kernel
theorem vx_F_readLine_59 : vm_rng (fun s => vm_chk bt_155 [] (vk_F_readLine s) 29 (vc_F_readLine s) 0 108 && (vm_ents 155 29 (vc_F_readLine s) (ve_F_readLine s) && vm_kok (vk_F_readLine s))) 60 1 = true := by decide +kernel
theorem vx_F_readLine_60 : vm_rng (fun s => vm_chk bt_155 [] (vk_F_readLine s) 29 (vc_F_readLine s) 0 108 && (vm_ents 155 29 (vc_F_readLine s) (ve_F_readLine s) && vm_kok (vk_F_readLine s))) 61 1 = true := by decide +kernel
theorem vx_F_readLine_61 : vm_rng (fun s => vm_chk bt_155 [] (vk_F_readLine s) 29 (vc_F_readLine s) 0 108 && (vm_ents 155 29 (vc_F_readLine s) (ve_F_readLine s) && vm_kok (vk_F_readLine s))) 62 1 = true := by decide +kernel
theorem vx_F_readLine_62 : vm_rng (fun s => vm_chk bt_155 [] (vk_F_readLine s) 29 (vc_F_readLine s) 0 108 && (vm_ents 155 29 (vc_F_readLine s) (ve_F_readLine s) && vm_kok (vk_F_readLine s))) 63 1 = true := by decide +kernel
theorem vx_F_readLine_63 : vm_rng (fun s => vm_chk bt_155 [] (vk_F_readLine s) 29 (vc_F_readLine s) 0 108 && (vm_ents 155 29 (vc_F_readLine s) (ve_F_readLine s) && vm_kok (vk_F_readLine s))) 64 1 = true := by decide +kernel
theorem vx_F_readLine_64 : vm_rng (fun s => vm_chk bt_155 [] (vk_F_readLine s) 29 (vc_F_readLine s) 0 108 && (vm_ents 155 29 (vc_F_readLine s) (ve_F_readLine s) && vm_kok (vk_F_readLine s))) 65 1 = true := by decide +kernel
theorem vx_F_readLine_65 : vm_rng (fun s => vm_chk bt_155 [] (vk_F_readLine s) 29 (vc_F_readLine s) 0 108 && (vm_ents 155 29 (vc_F_readLine s) (ve_F_readLine s) && vm_kok (vk_F_readLine s))) 66 1 = true := by decide +kernel
theorem vx_F_readLine_66 : vm_rng (fun s => vm_chk bt_155 [] (vk_F_readLine s) 29 (vc_F_readLine s) 0 108 && (vm_ents 155 29 (vc_F_readLine s) (ve_F_readLine s) && vm_kok (vk_F_readLine s))) 67 1 = true := by decide +kernel
theorem vx_F_readLine_67 : vm_rng (fun s => vm_chk bt_155 [] (vk_F_readLine s) 29 (vc_F_readLine s) 0 108 && (vm_ents 155 29 (vc_F_readLine s) (ve_F_readLine s) && vm_kok (vk_F_readLine s))) 68 1 = true := by decide +kernel
theorem vx_F_readLine_68 : vm_rng (fun s => vm_chk bt_155 [] (vk_F_readLine s) 29 (vc_F_readLine s) 0 108 && (vm_ents 155 29 (vc_F_readLine s) (ve_F_readLine s) && vm_kok (vk_F_readLine s))) 69 1 = true := by decide +kernel
theorem vx_F_readLine_69 : vm_rng (fun s => vm_chk bt_155 [] (vk_F_readLine s) 29 (vc_F_readLine s) 0 108 && (vm_ents 155 29 (vc_F_readLine s) (ve_F_readLine s) && vm_kok (vk_F_readLine s))) 70 1 = true := by decide +kernel
theorem vx_F_readLine_70 : vm_rng (fun s => vm_chk bt_155 [] (vk_F_readLine s) 29 (vc_F_readLine s) 0 108 && (vm_ents 155 29 (vc_F_readLine s) (ve_F_readLine s) && vm_kok (vk_F_readLine s))) 71 1 = true := by decide +kernel
theorem vx_F_readLine_71 : vm_rng (fun s => vm_chk bt_155 [] (vk_F_readLine s) 29 (vc_F_readLine s) 0 108 && (vm_ents 155 29 (vc_F_readLine s) (ve_F_readLine s) && vm_kok (vk_F_readLine s))) 72 1 = true := by decide +kernel
theorem vx_F_readLine_72 : vm_rng (fun s => vm_chk bt_155 [] (vk_F_readLine s) 29 (vc_F_readLine s) 0 108 && (vm_ents 155 29 (vc_F_readLine s) (ve_F_readLine s) && vm_kok (vk_F_readLine s))) 73 1 = true := by decide +kernel
theorem vx_F_readLine_73 : vm_rng (fun s => vm_chk bt_155 [] (vk_F_readLine s) 29 (vc_F_readLine s) 0 108 && (vm_ents 155 29 (vc_F_readLine s) (ve_F_readLine s) && vm_kok (vk_F_readLine s))) 74 1 = true := by decide +kernel
theorem vx_F_readLine_74 : vm_rng (fun s => vm_chk bt_155 [] (vk_F_readLine s) 29 (vc_F_readLine s) 0 108 && (vm_ents 155 29 (vc_F_readLine s) (ve_F_readLine s) && vm_kok (vk_F_readLine s))) 75 1 = true := by decide +kernel
theorem vx_F_readLine_75 : vm_rng (fun s => vm_chk bt_155 [] (vk_F_readLine s) 29 (vc_F_readLine s) 0 108 && (vm_ents 155 29 (vc_F_readLine s) (ve_F_readLine s) && vm_kok (vk_F_readLine s))) 76 1 = true := by decide +kernel
theorem vx_F_readLine_76 : vm_rng (fun s => vm_chk bt_155 [] (vk_F_readLine s) 29 (vc_F_readLine s) 0 108 && (vm_ents 155 29 (vc_F_readLine s) (ve_F_readLine s) && vm_kok (vk_F_readLine s))) 77 1 = true := by decide +kernel
theorem vx_F_readLine_77 : vm_rng (fun s => vm_chk bt_155 [] (vk_F_readLine s) 29 (vc_F_readLine s) 0 108 && (vm_ents 155 29 (vc_F_readLine s) (ve_F_readLine s) && vm_kok (vk_F_readLine s))) 78 1 = true := by decide +kernel
theorem vx_F_readLine_78 : vm_rng (fun s => vm_chk bt_155 [] (vk_F_readLine s) 29 (vc_F_readLine s) 0 108 && (vm_ents 155 29 (vc_F_readLine s) (ve_F_readLine s) && vm_kok (vk_F_readLine s))) 79 1 = true := by decide +kernel
theorem vx_F_readLine_79 : vm_rng (fun s => vm_chk bt_155 [] (vk_F_readLine s) 29 (vc_F_readLine s) 0 108 && (vm_ents 155 29 (vc_F_readLine s) (ve_F_readLine s) && vm_kok (vk_F_readLine s))) 80 1 = true := by decide +kernel
theorem vx_F_readLine_80 : vm_rng (fun s => vm_chk bt_155 [] (vk_F_readLine s) 29 (vc_F_readLine s) 0 108 && (vm_ents 155 29 (vc_F_readLine s) (ve_F_readLine s) && vm_kok (vk_F_readLine s))) 81 1 = true := by decide +kernel
theorem vx_F_readLine_81 : vm_rng (fun s => vm_chk bt_155 [] (vk_F_readLine s) 29 (vc_F_readLine s) 0 108 && (vm_ents 155 29 (vc_F_readLine s) (ve_F_readLine s) && vm_kok (vk_F_readLine s))) 82 1 = true := by decide +kernel
theorem vx_F_readLine_82 : vm_rng (fun s => vm_chk bt_155 [] (vk_F_readLine s) 29 (vc_F_readLine s) 0 108 && (vm_ents 155 29 (vc_F_readLine s) (ve_F_readLine s) && vm_kok (vk_F_readLine s))) 83 1 = true := by decide +kernel
theorem vx_F_readLine_83 : vm_rng (fun s => vm_chk bt_155 [] (vk_F_readLine s) 29 (vc_F_readLine s) 0 108 && (vm_ents 155 29 (vc_F_readLine s) (ve_F_readLine s) && vm_kok (vk_F_readLine s))) 84 1 = true := by decide +kernel
theorem vx_F_readLine_84 : vm_rng (fun s => vm_chk bt_155 [] (vk_F_readLine s) 29 (vc_F_readLine s) 0 108 && (vm_ents 155 29 (vc_F_readLine s) (ve_F_readLine s) && vm_kok (vk_F_readLine s))) 85 1 = true := by decide +kernel
theorem vx_F_readLine_85 : vm_rng (fun s => vm_chk bt_155 [] (vk_F_readLine s) 29 (vc_F_readLine s) 0 108 && (vm_ents 155 29 (vc_F_readLine s) (ve_F_readLine s) && vm_kok (vk_F_readLine s))) 86 1 = true := by decide +kernel
theorem vx_F_readLine_86 : vm_rng (fun s => vm_chk bt_155 [] (vk_F_readLine s) 29 (vc_F_readLine s) 0 108 && (vm_ents 155 29 (vc_F_readLine s) (ve_F_readLine s) && vm_kok (vk_F_readLine s))) 87 1 = true := by decide +kernel
theorem vx_F_readLine_87 : vm_rng (fun s => vm_chk bt_155 [] (vk_F_readLine s) 29 (vc_F_readLine s) 0 108 && (vm_ents 155 29 (vc_F_readLine s) (ve_F_readLine s) && vm_kok (vk_F_readLine s))) 88 1 = true := by decide +kernel
theorem vx_F_readLine_88 : vm_rng (fun s => vm_chk bt_155 [] (vk_F_readLine s) 29 (vc_F_readLine s) 0 108 && (vm_ents 155 29 (vc_F_readLine s) (ve_F_readLine s) && vm_kok (vk_F_readLine s))) 89 1 = true := by decide +kernel
theorem vx_F_readLine_89 : vm_rng (fun s => vm_chk bt_155 [] (vk_F_readLine s) 29 (vc_F_readLine s) 0 108 && (vm_ents 155 29 (vc_F_readLine s) (ve_F_readLine s) && vm_kok (vk_F_readLine s))) 90 1 = true := by decide +kernel
theorem vx_F_readLine_90 : vm_rng (fun s => vm_chk bt_155 [] (vk_F_readLine s) 29 (vc_F_readLine s) 0 108 && (vm_ents 155 29 (vc_F_readLine s) (ve_F_readLine s) && vm_kok (vk_F_readLine s))) 91 1 = true := by decide +kernel
theorem vx_F_readLine_91 : vm_rng (fun s => vm_chk bt_155 [] (vk_F_readLine s) 29 (vc_F_readLine s) 0 108 && (vm_ents 155 29 (vc_F_readLine s) (ve_F_readLine s) && vm_kok (vk_F_readLine s))) 92 1 = true := by decide +kernel
theorem vx_F_readLine_92 : vm_rng (fun s => vm_chk bt_155 [] (vk_F_readLine s) 29 (vc_F_readLine s) 0 108 && (vm_ents 155 29 (vc_F_readLine s) (ve_F_readLine s) && vm_kok (vk_F_readLine s))) 93 1 = true := by decide +kernel
theorem vx_F_readLine_93 : vm_rng (fun s => vm_chk bt_155 [] (vk_F_readLine s) 29 (vc_F_readLine s) 0 108 && (vm_ents 155 29 (vc_F_readLine s) (ve_F_readLine s) && vm_kok (vk_F_readLine s))) 94 1 = true := by decide +kernel
theorem vx_F_readLine_94 : vm_rng (fun s => vm_chk bt_155 [] (vk_F_readLine s) 29 (vc_F_readLine s) 0 108 && (vm_ents 155 29 (vc_F_readLine s) (ve_F_readLine s) && vm_kok (vk_F_readLine s))) 95 1 = true := by decide +kernel
theorem vx_F_readLine_95 : vm_rng (fun s => vm_chk bt_155 [] (vk_F_readLine s) 29 (vc_F_readLine s) 0 108 && (vm_ents 155 29 (vc_F_readLine s) (ve_F_readLine s) && vm_kok (vk_F_readLine s))) 96 1 = true := by decide +kernel
theorem vx_F_readLine_96 : vm_rng (fun s => vm_chk bt_155 [] (vk_F_readLine s) 29 (vc_F_readLine s) 0 108 && (vm_ents 155 29 (vc_F_readLine s) (ve_F_readLine s) && vm_kok (vk_F_readLine s))) 97 1 = true := by decide +kernel
theorem vx_F_readLine_97 : vm_rng (fun s => vm_chk bt_155 [] (vk_F_readLine s) 29 (vc_F_readLine s) 0 108 && (vm_ents 155 29 (vc_F_readLine s) (ve_F_readLine s) && vm_kok (vk_F_readLine s))) 98 1 = true := by decide +kernel
theorem vx_F_readLine_98 : vm_rng (fun s => vm_chk bt_155 [] (vk_F_readLine s) 29 (vc_F_readLine s) 0 108 && (vm_ents 155 29 (vc_F_readLine s) (ve_F_readLine s) && vm_kok (vk_F_readLine s))) 99 1 = true := by decide +kernel
theorem vx_F_readLine_99 : vm_rng (fun s => vm_chk bt_155 [] (vk_F_readLine s) 29 (vc_F_readLine s) 0 108 && (vm_ents 155 29 (vc_F_readLine s) (ve_F_readLine s) && vm_kok (vk_F_readLine s))) 100 1 = true := by decide +kernel
theorem vx_F_readLine_100 : vm_rng (fun s => vm_chk bt_155 [] (vk_F_readLine s) 29 (vc_F_readLine s) 0 108 && (vm_ents 155 29 (vc_F_readLine s) (ve_F_readLine s) && vm_kok (vk_F_readLine s))) 101 1 = true := by decide +kernel
theorem vx_F_readLine_101 : vm_rng (fun s => vm_chk bt_155 [] (vk_F_readLine s) 29 (vc_F_readLine s) 0 108 && (vm_ents 155 29 (vc_F_readLine s) (ve_F_readLine s) && vm_kok (vk_F_readLine s))) 102 1 = true := by decide +kernel
theorem vx_F_readLine_102 : vm_rng (fun s => vm_chk bt_155 [] (vk_F_readLine s) 29 (vc_F_readLine s) 0 108 && (vm_ents 155 29 (vc_F_readLine s) (ve_F_readLine s) && vm_kok (vk_F_readLine s))) 103 1 = true := by decide +kernel
theorem vx_F_readLine_103 : vm_rng (fun s => vm_chk bt_155 [] (vk_F_readLine s) 29 (vc_F_readLine s) 0 108 && (vm_ents 155 29 (vc_F_readLine s) (ve_F_readLine s) && vm_kok (vk_F_readLine s))) 104 1 = true := by decide +kernel
theorem vx_F_readLine_104 : vm_rng (fun s => vm_chk bt_155 [] (vk_F_readLine s) 29 (vc_F_readLine s) 0 108 && (vm_ents 155 29 (vc_F_readLine s) (ve_F_readLine s) && vm_kok (vk_F_readLine s))) 105 1 = true := by decide +kernel
theorem vx_F_readLine_105 : vm_rng (fun s => vm_chk bt_155 [] (vk_F_readLine s) 29 (vc_F_readLine s) 0 108 && (vm_ents 155 29 (vc_F_readLine s) (ve_F_readLine s) && vm_kok (vk_F_readLine s))) 106 1 = true := by decide +kernel
theorem vx_F_readLine_106 : vm_rng (fun s => vm_chk bt_155 [] (vk_F_readLine s) 29 (vc_F_readLine s) 0 108 && (vm_ents 155 29 (vc_F_readLine s) (ve_F_readLine s) && vm_kok (vk_F_readLine s))) 107 1 = true := by decide +kernel
theorem vx_F_readLine_107 : vm_rng (fun s => vm_chk bt_155 [] (vk_F_readLine s) 29 (vc_F_readLine s) 0 108 && (vm_ents 155 29 (vc_F_readLine s) (ve_F_readLine s) && vm_kok (vk_F_readLine s))) 108 1 = true := by decide +kernel
theorem vx_F_readLine_108 : vm_rng (fun s => vm_chk bt_155 [] (vk_F_readLine s) 29 (vc_F_readLine s) 0 108 && (vm_ents 155 29 (vc_F_readLine s) (ve_F_readLine s) && vm_kok (vk_F_readLine s))) 109 1 = true := by decide +kernel
theorem vx_F_readLine_109 : vm_rng (fun s => vm_chk bt_155 [] (vk_F_readLine s) 29 (vc_F_readLine s) 0 108 && (vm_ents 155 29 (vc_F_readLine s) (ve_F_readLine s) && vm_kok (vk_F_readLine s))) 110 1 = true := by decide +kernel
theorem vx_F_readLine_110 : vm_rng (fun s => vm_chk bt_155 [] (vk_F_readLine s) 29 (vc_F_readLine s) 0 108 && (vm_ents 155 29 (vc_F_readLine s) (ve_F_readLine s) && vm_kok (vk_F_readLine s))) 111 1 = true := by decide +kernel
theorem vx_F_readLine_111 : vm_rng (fun s => vm_chk bt_155 [] (vk_F_readLine s) 29 (vc_F_readLine s) 0 108 && (vm_ents 155 29 (vc_F_readLine s) (ve_F_readLine s) && vm_kok (vk_F_readLine s))) 112 1 = true := by decide +kernel
theorem vx_F_readLine_112 : vm_rng (fun s => vm_chk bt_155 [] (vk_F_readLine s) 29 (vc_F_readLine s) 0 108 && (vm_ents 155 29 (vc_F_readLine s) (ve_F_readLine s) && vm_kok (vk_F_readLine s))) 113 1 = true := by decide +kernel
theorem vx_F_readLine_113 : vm_rng (fun s => vm_chk bt_155 [] (vk_F_readLine s) 29 (vc_F_readLine s) 0 108 && (vm_ents 155 29 (vc_F_readLine s) (ve_F_readLine s) && vm_kok (vk_F_readLine s))) 114 1 = true := by decide +kernel
theorem vx_F_readLine_114 : vm_rng (fun s => vm_chk bt_155 [] (vk_F_readLine s) 29 (vc_F_readLine s) 0 108 && (vm_ents 155 29 (vc_F_readLine s) (ve_F_readLine s) && vm_kok (vk_F_readLine s))) 115 1 = true := by decide +kernel
theorem vx_F_readLine_115 : vm_rng (fun s => vm_chk bt_155 [] (vk_F_readLine s) 29 (vc_F_readLine s) 0 108 && (vm_ents 155 29 (vc_F_readLine s) (ve_F_readLine s) && vm_kok (vk_F_readLine s))) 116 1 = true := by decide +kernel
theorem vx_F_readLine_116 : vm_rng (fun s => vm_chk bt_155 [] (vk_F_readLine s) 29 (vc_F_readLine s) 0 108 && (vm_ents 155 29 (vc_F_readLine s) (ve_F_readLine s) && vm_kok (vk_F_readLine s))) 117 1 = true := by decide +kernel
theorem vx_F_readLine_117 : vm_rng (fun s => vm_chk bt_155 [] (vk_F_readLine s) 29 (vc_F_readLine s) 0 108 && (vm_ents 155 29 (vc_F_readLine s) (ve_F_readLine s) && vm_kok (vk_F_readLine s))) 118 1 = true := by decide +kernel
theorem vx_F_readLine_118 : vm_rng (fun s => vm_chk bt_155 [] (vk_F_readLine s) 29 (vc_F_readLine s) 0 108 && (vm_ents 155 29 (vc_F_readLine s) (ve_F_readLine s) && vm_kok (vk_F_readLine s))) 119 1 = true := by decide +kernel
theorem vx_F_readLine_119 : vm_rng (fun s => vm_chk bt_155 [] (vk_F_readLine s) 29 (vc_F_readLine s) 0 108 && (vm_ents 155 29 (vc_F_readLine s) (ve_F_readLine s) && vm_kok (vk_F_readLine s))) 120 1 = true := by decide +kernel
theorem vx_F_readLine_120 : vm_rng (fun s => vm_chk bt_155 [] (vk_F_readLine s) 29 (vc_F_readLine s) 0 108 && (vm_ents 155 29 (vc_F_readLine s) (ve_F_readLine s) && vm_kok (vk_F_readLine s))) 121 1 = true := by decide +kernel
theorem vx_F_readLine_121 : vm_rng (fun s => vm_chk bt_155 [] (vk_F_readLine s) 29 (vc_F_readLine s) 0 108 && (vm_ents 155 29 (vc_F_readLine s) (ve_F_readLine s) && vm_kok (vk_F_readLine s))) 122 1 = true := by decide +kernel
theorem vx_F_readLine_122 : vm_rng (fun s => vm_chk bt_155 [] (vk_F_readLine s) 29 (vc_F_readLine s) 0 108 && (vm_ents 155 29 (vc_F_readLine s) (ve_F_readLine s) && vm_kok (vk_F_readLine s))) 123 1 = true := by decide +kernel
theorem vx_F_readLine_123 : vm_rng (fun s => vm_chk bt_155 [] (vk_F_readLine s) 29 (vc_F_readLine s) 0 108 && (vm_ents 155 29 (vc_F_readLine s) (ve_F_readLine s) && vm_kok (vk_F_readLine s))) 124 1 = true := by decide +kernel
theorem vx_F_readLine_124 : vm_rng (fun s => vm_chk bt_155 [] (vk_F_readLine s) 29 (vc_F_readLine s) 0 108 && (vm_ents 155 29 (vc_F_readLine s) (ve_F_readLine s) && vm_kok (vk_F_readLine s))) 125 1 = true := by decide +kernel
theorem vx_F_readLine_125 : vm_rng (fun s => vm_chk bt_155 [] (vk_F_readLine s) 29 (vc_F_readLine s) 0 108 && (vm_ents 155 29 (vc_F_readLine s) (ve_F_readLine s) && vm_kok (vk_F_readLine s))) 126 1 = true := by decide +kernel
theorem vx_F_readLine_126 : vm_rng (fun s => vm_chk bt_155 [] (vk_F_readLine s) 29 (vc_F_readLine s) 0 108 && (vm_ents 155 29 (vc_F_readLine s) (ve_F_readLine s) && vm_kok (vk_F_readLine s))) 127 1 = true := by decide +kernel
theorem vx_F_readLine_127 : vm_rng (fun s => vm_chk bt_155 [] (vk_F_readLine s) 29 (vc_F_readLine s) 0 108 && (vm_ents 155 29 (vc_F_readLine s) (ve_F_readLine s) && vm_kok (vk_F_readLine s))) 128 1 = true := by decide +kernel
theorem vx_F_readLine_128 : vm_rng (fun s => vm_chk bt_155 [] (vk_F_readLine s) 29 (vc_F_readLine s) 0 108 && (vm_ents 155 29 (vc_F_readLine s) (ve_F_readLine s) && vm_kok (vk_F_readLine s))) 129 1 = true := by decide +kernel
theorem vx_F_readLine_129 : vm_rng (fun s => vm_chk bt_155 [] (vk_F_readLine s) 29 (vc_F_readLine s) 0 108 && (vm_ents 155 29 (vc_F_readLine s) (ve_F_readLine s) && vm_kok (vk_F_readLine s))) 130 1 = true := by decide +kernel
theorem vx_F_readLine_130 : vm_rng (fun s => vm_chk bt_155 [] (vk_F_readLine s) 29 (vc_F_readLine s) 0 108 && (vm_ents 155 29 (vc_F_readLine s) (ve_F_readLine s) && vm_kok (vk_F_readLine s))) 131 1 = true := by decide +kernel
theorem vx_F_readLine_131 : vm_rng (fun s => vm_chk bt_155 [] (vk_F_readLine s) 29 (vc_F_readLine s) 0 108 && (vm_ents 155 29 (vc_F_readLine s) (ve_F_readLine s) && vm_kok (vk_F_readLine s))) 132 1 = true := by decide +kernel
theorem vx_F_readLine_132 : vm_rng (fun s => vm_chk bt_155 [] (vk_F_readLine s) 29 (vc_F_readLine s) 0 108 && (vm_ents 155 29 (vc_F_readLine s) (ve_F_readLine s) && vm_kok (vk_F_readLine s))) 133 1 = true := by decide +kernel
theorem vx_F_readLine_133 : vm_rng (fun s => vm_chk bt_155 [] (vk_F_readLine s) 29 (vc_F_readLine s) 0 108 && (vm_ents 155 29 (vc_F_readLine s) (ve_F_readLine s) && vm_kok (vk_F_readLine s))) 134 1 = true := by decide +kernel
theorem vx_F_readLine_134 : vm_rng (fun s => vm_chk bt_155 [] (vk_F_readLine s) 29 (vc_F_readLine s) 0 108 && (vm_ents 155 29 (vc_F_readLine s) (ve_F_readLine s) && vm_kok (vk_F_readLine s))) 135 1 = true := by decide +kernel
theorem vx_F_readLine_135 : vm_rng (fun s => vm_chk bt_155 [] (vk_F_readLine s) 29 (vc_F_readLine s) 0 108 && (vm_ents 155 29 (vc_F_readLine s) (ve_F_readLine s) && vm_kok (vk_F_readLine s))) 136 1 = true := by decide +kernel
theorem vx_F_readLine_136 : vm_rng (fun s => vm_chk bt_155 [] (vk_F_readLine s) 29 (vc_F_readLine s) 0 108 && (vm_ents 155 29 (vc_F_readLine s) (ve_F_readLine s) && vm_kok (vk_F_readLine s))) 137 1 = true := by decide +kernel
theorem vx_F_readLine_137 : vm_rng (fun s => vm_chk bt_155 [] (vk_F_readLine s) 29 (vc_F_readLine s) 0 108 && (vm_ents 155 29 (vc_F_readLine s) (ve_F_readLine s) && vm_kok (vk_F_readLine s))) 138 1 = true := by decide +kernel
theorem vx_F_readLine_138 : vm_rng (fun s => vm_chk bt_155 [] (vk_F_readLine s) 29 (vc_F_readLine s) 0 108 && (vm_ents 155 29 (vc_F_readLine s) (ve_F_readLine s) && vm_kok (vk_F_readLine s))) 139 1 = true := by decide +kernel
theorem vx_F_readLine_139 : vm_rng (fun s => vm_chk bt_155 [] (vk_F_readLine s) 29 (vc_F_readLine s) 0 108 && (vm_ents 155 29 (vc_F_readLine s) (ve_F_readLine s) && vm_kok (vk_F_readLine s))) 140 1 = true := by decide +kernel
theorem vx_F_readLine_140 : vm_rng (fun s => vm_chk bt_155 [] (vk_F_readLine s) 29 (vc_F_readLine s) 0 108 && (vm_ents 155 29 (vc_F_readLine s) (ve_F_readLine s) && vm_kok (vk_F_readLine s))) 141 1 = true := by decide +kernel
theorem vx_F_readLine_141 : vm_rng (fun s => vm_chk bt_155 [] (vk_F_readLine s) 29 (vc_F_readLine s) 0 108 && (vm_ents 155 29 (vc_F_readLine s) (ve_F_readLine s) && vm_kok (vk_F_readLine s))) 142 1 = true := by decide +kernel
theorem vx_F_readLine_142 : vm_rng (fun s => vm_chk bt_155 [] (vk_F_readLine s) 29 (vc_F_readLine s) 0 108 && (vm_ents 155 29 (vc_F_readLine s) (ve_F_readLine s) && vm_kok (vk_F_readLine s))) 143 1 = true := by decide +kernel
theorem vx_F_readLine_143 : vm_rng (fun s => vm_chk bt_155 [] (vk_F_readLine s) 29 (vc_F_readLine s) 0 108 && (vm_ents 155 29 (vc_F_readLine s) (ve_F_readLine s) && vm_kok (vk_F_readLine s))) 144 1 = true := by decide +kernel
theorem vx_F_readLine_144 : vm_rng (fun s => vm_chk bt_155 [] (vk_F_readLine s) 29 (vc_F_readLine s) 0 108 && (vm_ents 155 29 (vc_F_readLine s) (ve_F_readLine s) && vm_kok (vk_F_readLine s))) 145 1 = true := by decide +kernel
theorem vx_F_readLine_145 : vm_rng (fun s => vm_chk bt_155 [] (vk_F_readLine s) 29 (vc_F_readLine s) 0 108 && (vm_ents 155 29 (vc_F_readLine s) (ve_F_readLine s) && vm_kok (vk_F_readLine s))) 146 1 = true := by decide +kernel
theorem vx_F_readLine_146 : vm_rng (fun s => vm_chk bt_155 [] (vk_F_readLine s) 29 (vc_F_readLine s) 0 108 && (vm_ents 155 29 (vc_F_readLine s) (ve_F_readLine s) && vm_kok (vk_F_readLine s))) 147 1 = true := by decide +kernel
theorem vx_F_readLine_147 : vm_rng (fun s => vm_chk bt_155 [] (vk_F_readLine s) 29 (vc_F_readLine s) 0 108 && (vm_ents 155 29 (vc_F_readLine s) (ve_F_readLine s) && vm_kok (vk_F_readLine s))) 148 1 = true := by decide +kernel
theorem vx_F_readLine_148 : vm_rng (fun s => vm_chk bt_155 [] (vk_F_readLine s) 29 (vc_F_readLine s) 0 108 && (vm_ents 155 29 (vc_F_readLine s) (ve_F_readLine s) && vm_kok (vk_F_readLine s))) 149 1 = true := by decide +kernel
theorem vx_F_readLine_149 : vm_rng (fun s => vm_chk bt_155 [] (vk_F_readLine s) 29 (vc_F_readLine s) 0 108 && (vm_ents 155 29 (vc_F_readLine s) (ve_F_readLine s) && vm_kok (vk_F_readLine s))) 150 1 = true := by decide +kernel
theorem vx_F_readLine_150 : vm_rng (fun s => vm_chk bt_155 [] (vk_F_readLine s) 29 (vc_F_readLine s) 0 108 && (vm_ents 155 29 (vc_F_readLine s) (ve_F_readLine s) && vm_kok (vk_F_readLine s))) 151 1 = true := by decide +kernel
theorem vx_F_readLine_151 : vm_rng (fun s => vm_chk bt_155 [] (vk_F_readLine s) 29 (vc_F_readLine s) 0 108 && (vm_ents 155 29 (vc_F_readLine s) (ve_F_readLine s) && vm_kok (vk_F_readLine s))) 152 1 = true := by decide +kernel
theorem vx_F_readLine_152 : vm_rng (fun s => vm_chk bt_155 [] (vk_F_readLine s) 29 (vc_F_readLine s) 0 108 && (vm_ents 155 29 (vc_F_readLine s) (ve_F_readLine s) && vm_kok (vk_F_readLine s))) 153 1 = true := by decide +kernel
theorem vx_F_readLine_153 : vm_rng (fun s => vm_chk bt_155 [] (vk_F_readLine s) 29 (vc_F_readLine s) 0 108 && (vm_ents 155 29 (vc_F_readLine s) (ve_F_readLine s) && vm_kok (vk_F_readLine s))) 154 1 = true := by decide +kernel
set_option maxRecDepth 20000 in
theorem vz_F_readLine (s : Nat) (h1 : 1 ≤ s) (h2 : s < 155) : (vm_chk bt_155 [] (vk_F_readLine s) 29 (vc_F_readLine s) 0 108 && (vm_ents 155 29 (vc_F_readLine s) (ve_F_readLine s) && vm_kok (vk_F_readLine s))) = true := by
  by_cases g0 : s < 2
  · exact vm_rng_ok vx_F_readLine_0 s (by omega) (by omega)
  by_cases g1 : s < 3
  · exact vm_rng_ok vx_F_readLine_1 s (by omega) (by omega)
  by_cases g2 : s < 4
  · exact vm_rng_ok vx_F_readLine_2 s (by omega) (by omega)
  by_cases g3 : s < 5
  · exact vm_rng_ok vx_F_readLine_3 s (by omega) (by omega)
  by_cases g4 : s < 6
  · exact vm_rng_ok vx_F_readLine_4 s (by omega) (by omega)
  by_cases g5 : s < 7
  · exact vm_rng_ok vx_F_readLine_5 s (by omega) (by omega)
  by_cases g6 : s < 8
  · exact vm_rng_ok vx_F_readLine_6 s (by omega) (by omega)
  by_cases g7 : s < 9
  · exact vm_rng_ok vx_F_readLine_7 s (by omega) (by omega)
  by_cases g8 : s < 10
  · exact vm_rng_ok vx_F_readLine_8 s (by omega) (by omega)
  by_cases g9 : s < 11
  · exact vm_rng_ok vx_F_readLine_9 s (by omega) (by omega)
  by_cases g10 : s < 12
  · exact vm_rng_ok vx_F_readLine_10 s (by omega) (by omega)
  by_cases g11 : s < 13
  · exact vm_rng_ok vx_F_readLine_11 s (by omega) (by omega)
  by_cases g12 : s < 14
  · exact vm_rng_ok vx_F_readLine_12 s (by omega) (by omega)
  by_cases g13 : s < 15
  · exact vm_rng_ok vx_F_readLine_13 s (by omega) (by omega)
  by_cases g14 : s < 16
  · exact vm_rng_ok vx_F_readLine_14 s (by omega) (by omega)
  by_cases g15 : s < 17
  · exact vm_rng_ok vx_F_readLine_15 s (by omega) (by omega)
  by_cases g16 : s < 18
  · exact vm_rng_ok vx_F_readLine_16 s (by omega) (by omega)
  by_cases g17 : s < 19
  · exact vm_rng_ok vx_F_readLine_17 s (by omega) (by omega)
  by_cases g18 : s < 20
  · exact vm_rng_ok vx_F_readLine_18 s (by omega) (by omega)
  by_cases g19 : s < 21
  · exact vm_rng_ok vx_F_readLine_19 s (by omega) (by omega)
  by_cases g20 : s < 22
  · exact vm_rng_ok vx_F_readLine_20 s (by omega) (by omega)
  by_cases g21 : s < 23
  · exact vm_rng_ok vx_F_readLine_21 s (by omega) (by omega)
  by_cases g22 : s < 24
  · exact vm_rng_ok vx_F_readLine_22 s (by omega) (by omega)
  by_cases g23 : s < 25
  · exact vm_rng_ok vx_F_readLine_23 s (by omega) (by omega)
  by_cases g24 : s < 26
  · exact vm_rng_ok vx_F_readLine_24 s (by omega) (by omega)
  by_cases g25 : s < 27
  · exact vm_rng_ok vx_F_readLine_25 s (by omega) (by omega)
  by_cases g26 : s < 28
  · exact vm_rng_ok vx_F_readLine_26 s (by omega) (by omega)
  by_cases g27 : s < 29
  · exact vm_rng_ok vx_F_readLine_27 s (by omega) (by omega)
  by_cases g28 : s < 30
  · exact vm_rng_ok vx_F_readLine_28 s (by omega) (by omega)
  by_cases g29 : s < 31
  · exact vm_rng_ok vx_F_readLine_29 s (by omega) (by omega)
  by_cases g30 : s < 32
  · exact vm_rng_ok vx_F_readLine_30 s (by omega) (by omega)
  by_cases g31 : s < 33
  · exact vm_rng_ok vx_F_readLine_31 s (by omega) (by omega)
  by_cases g32 : s < 34
  · exact vm_rng_ok vx_F_readLine_32 s (by omega) (by omega)
  by_cases g33 : s < 35
  · exact vm_rng_ok vx_F_readLine_33 s (by omega) (by omega)
  by_cases g34 : s < 36
  · exact vm_rng_ok vx_F_readLine_34 s (by omega) (by omega)
  by_cases g35 : s < 37
  · exact vm_rng_ok vx_F_readLine_35 s (by omega) (by omega)
  by_cases g36 : s < 38
  · exact vm_rng_ok vx_F_readLine_36 s (by omega) (by omega)
  by_cases g37 : s < 39
  · exact vm_rng_ok vx_F_readLine_37 s (by omega) (by omega)
  by_cases g38 : s < 40
  · exact vm_rng_ok vx_F_readLine_38 s (by omega) (by omega)
  by_cases g39 : s < 41
  · exact vm_rng_ok vx_F_readLine_39 s (by omega) (by omega)
  by_cases g40 : s < 42
  · exact vm_rng_ok vx_F_readLine_40 s (by omega) (by omega)
  by_cases g41 : s < 43
  · exact vm_rng_ok vx_F_readLine_41 s (by omega) (by omega)
  by_cases g42 : s < 44
  · exact vm_rng_ok vx_F_readLine_42 s (by omega) (by omega)
  by_cases g43 : s < 45
  · exact vm_rng_ok vx_F_readLine_43 s (by omega) (by omega)
  by_cases g44 : s < 46
  · exact vm_rng_ok vx_F_readLine_44 s (by omega) (by omega)
  by_cases g45 : s < 47
  · exact vm_rng_ok vx_F_readLine_45 s (by omega) (by omega)
  by_cases g46 : s < 48
  · exact vm_rng_ok vx_F_readLine_46 s (by omega) (by omega)
  by_cases g47 : s < 49
  · exact vm_rng_ok vx_F_readLine_47 s (by omega) (by omega)
  by_cases g48 : s < 50
  · exact vm_rng_ok vx_F_readLine_48 s (by omega) (by omega)
  by_cases g49 : s < 51
  · exact vm_rng_ok vx_F_readLine_49 s (by omega) (by omega)
  by_cases g50 : s < 52
  · exact vm_rng_ok vx_F_readLine_50 s (by omega) (by omega)
  by_cases g51 : s < 53
  · exact vm_rng_ok vx_F_readLine_51 s (by omega) (by omega)
  by_cases g52 : s < 54
  · exact vm_rng_ok vx_F_readLine_52 s (by omega) (by omega)
  by_cases g53 : s < 55
  · exact vm_rng_ok vx_F_readLine_53 s (by omega) (by omega)
  by_cases g54 : s < 56
  · exact vm_rng_ok vx_F_readLine_54 s (by omega) (by omega)
  by_cases g55 : s < 57
  · exact vm_rng_ok vx_F_readLine_55 s (by omega) (by omega)
  by_cases g56 : s < 58
  · exact vm_rng_ok vx_F_readLine_56 s (by omega) (by omega)
  by_cases g57 : s < 59
  · exact vm_rng_ok vx_F_readLine_57 s (by omega) (by omega)
  by_cases g58 : s < 60
  · exact vm_rng_ok vx_F_readLine_58 s (by omega) (by omega)
  by_cases g59 : s < 61
  · exact vm_rng_ok vx_F_readLine_59 s (by omega) (by omega)
  by_cases g60 : s < 62
  · exact vm_rng_ok vx_F_readLine_60 s (by omega) (by omega)
  by_cases g61 : s < 63
  · exact vm_rng_ok vx_F_readLine_61 s (by omega) (by omega)
  by_cases g62 : s < 64
  · exact vm_rng_ok vx_F_readLine_62 s (by omega) (by omega)
  by_cases g63 : s < 65
  · exact vm_rng_ok vx_F_readLine_63 s (by omega) (by omega)
  by_cases g64 : s < 66
  · exact vm_rng_ok vx_F_readLine_64 s (by omega) (by omega)
  by_cases g65 : s < 67
  · exact vm_rng_ok vx_F_readLine_65 s (by omega) (by omega)
  by_cases g66 : s < 68
  · exact vm_rng_ok vx_F_readLine_66 s (by omega) (by omega)
  by_cases g67 : s < 69
  · exact vm_rng_ok vx_F_readLine_67 s (by omega) (by omega)
  by_cases g68 : s < 70
  · exact vm_rng_ok vx_F_readLine_68 s (by omega) (by omega)
  by_cases g69 : s < 71
  · exact vm_rng_ok vx_F_readLine_69 s (by omega) (by omega)
  by_cases g70 : s < 72
  · exact vm_rng_ok vx_F_readLine_70 s (by omega) (by omega)
  by_cases g71 : s < 73
  · exact vm_rng_ok vx_F_readLine_71 s (by omega) (by omega)
  by_cases g72 : s < 74
  · exact vm_rng_ok vx_F_readLine_72 s (by omega) (by omega)
  by_cases g73 : s < 75
  · exact vm_rng_ok vx_F_readLine_73 s (by omega) (by omega)
  by_cases g74 : s < 76
  · exact vm_rng_ok vx_F_readLine_74 s (by omega) (by omega)
  by_cases g75 : s < 77
  · exact vm_rng_ok vx_F_readLine_75 s (by omega) (by omega)
  by_cases g76 : s < 78
  · exact vm_rng_ok vx_F_readLine_76 s (by omega) (by omega)
  by_cases g77 : s < 79
  · exact vm_rng_ok vx_F_readLine_77 s (by omega) (by omega)
  by_cases g78 : s < 80
  · exact vm_rng_ok vx_F_readLine_78 s (by omega) (by omega)
  by_cases g79 : s < 81
  · exact vm_rng_ok vx_F_readLine_79 s (by omega) (by omega)
  by_cases g80 : s < 82
  · exact vm_rng_ok vx_F_readLine_80 s (by omega) (by omega)
  by_cases g81 : s < 83
  · exact vm_rng_ok vx_F_readLine_81 s (by omega) (by omega)
  by_cases g82 : s < 84
  · exact vm_rng_ok vx_F_readLine_82 s (by omega) (by omega)
  by_cases g83 : s < 85
  · exact vm_rng_ok vx_F_readLine_83 s (by omega) (by omega)
  by_cases g84 : s < 86
  · exact vm_rng_ok vx_F_readLine_84 s (by omega) (by omega)
  by_cases g85 : s < 87
  · exact vm_rng_ok vx_F_readLine_85 s (by omega) (by omega)
  by_cases g86 : s < 88
  · exact vm_rng_ok vx_F_readLine_86 s (by omega) (by omega)
  by_cases g87 : s < 89
  · exact vm_rng_ok vx_F_readLine_87 s (by omega) (by omega)
  by_cases g88 : s < 90
  · exact vm_rng_ok vx_F_readLine_88 s (by omega) (by omega)
  by_cases g89 : s < 91
  · exact vm_rng_ok vx_F_readLine_89 s (by omega) (by omega)
  by_cases g90 : s < 92
  · exact vm_rng_ok vx_F_readLine_90 s (by omega) (by omega)
  by_cases g91 : s < 93
  · exact vm_rng_ok vx_F_readLine_91 s (by omega) (by omega)
  by_cases g92 : s < 94
  · exact vm_rng_ok vx_F_readLine_92 s (by omega) (by omega)
  by_cases g93 : s < 95
  · exact vm_rng_ok vx_F_readLine_93 s (by omega) (by omega)
  by_cases g94 : s < 96
  · exact vm_rng_ok vx_F_readLine_94 s (by omega) (by omega)
  by_cases g95 : s < 97
  · exact vm_rng_ok vx_F_readLine_95 s (by omega) (by omega)
  by_cases g96 : s < 98
  · exact vm_rng_ok vx_F_readLine_96 s (by omega) (by omega)
  by_cases g97 : s < 99
  · exact vm_rng_ok vx_F_readLine_97 s (by omega) (by omega)
  by_cases g98 : s < 100
  · exact vm_rng_ok vx_F_readLine_98 s (by omega) (by omega)
  by_cases g99 : s < 101
  · exact vm_rng_ok vx_F_readLine_99 s (by omega) (by omega)
  by_cases g100 : s < 102
  · exact vm_rng_ok vx_F_readLine_100 s (by omega) (by omega)
  by_cases g101 : s < 103
  · exact vm_rng_ok vx_F_readLine_101 s (by omega) (by omega)
  by_cases g102 : s < 104
  · exact vm_rng_ok vx_F_readLine_102 s (by omega) (by omega)
  by_cases g103 : s < 105
  · exact vm_rng_ok vx_F_readLine_103 s (by omega) (by omega)
  by_cases g104 : s < 106
  · exact vm_rng_ok vx_F_readLine_104 s (by omega) (by omega)
  by_cases g105 : s < 107
  · exact vm_rng_ok vx_F_readLine_105 s (by omega) (by omega)
  by_cases g106 : s < 108
  · exact vm_rng_ok vx_F_readLine_106 s (by omega) (by omega)
  by_cases g107 : s < 109
  · exact vm_rng_ok vx_F_readLine_107 s (by omega) (by omega)
  by_cases g108 : s < 110
  · exact vm_rng_ok vx_F_readLine_108 s (by omega) (by omega)
  by_cases g109 : s < 111
  · exact vm_rng_ok vx_F_readLine_109 s (by omega) (by omega)
  by_cases g110 : s < 112
  · exact vm_rng_ok vx_F_readLine_110 s (by omega) (by omega)
  by_cases g111 : s < 113
  · exact vm_rng_ok vx_F_readLine_111 s (by omega) (by omega)
  by_cases g112 : s < 114
  · exact vm_rng_ok vx_F_readLine_112 s (by omega) (by omega)
  by_cases g113 : s < 115
  · exact vm_rng_ok vx_F_readLine_113 s (by omega) (by omega)
  by_cases g114 : s < 116
  · exact vm_rng_ok vx_F_readLine_114 s (by omega) (by omega)
  by_cases g115 : s < 117
  · exact vm_rng_ok vx_F_readLine_115 s (by omega) (by omega)
  by_cases g116 : s < 118
  · exact vm_rng_ok vx_F_readLine_116 s (by omega) (by omega)
  by_cases g117 : s < 119
  · exact vm_rng_ok vx_F_readLine_117 s (by omega) (by omega)
  by_cases g118 : s < 120
  · exact vm_rng_ok vx_F_readLine_118 s (by omega) (by omega)
  by_cases g119 : s < 121
  · exact vm_rng_ok vx_F_readLine_119 s (by omega) (by omega)
  by_cases g120 : s < 122
  · exact vm_rng_ok vx_F_readLine_120 s (by omega) (by omega)
  by_cases g121 : s < 123
  · exact vm_rng_ok vx_F_readLine_121 s (by omega) (by omega)
  by_cases g122 : s < 124
  · exact vm_rng_ok vx_F_readLine_122 s (by omega) (by omega)
  by_cases g123 : s < 125
  · exact vm_rng_ok vx_F_readLine_123 s (by omega) (by omega)
  by_cases g124 : s < 126
  · exact vm_rng_ok vx_F_readLine_124 s (by omega) (by omega)
  by_cases g125 : s < 127
  · exact vm_rng_ok vx_F_readLine_125 s (by omega) (by omega)
  by_cases g126 : s < 128
  · exact vm_rng_ok vx_F_readLine_126 s (by omega) (by omega)
  by_cases g127 : s < 129
  · exact vm_rng_ok vx_F_readLine_127 s (by omega) (by omega)
  by_cases g128 : s < 130
  · exact vm_rng_ok vx_F_readLine_128 s (by omega) (by omega)
  by_cases g129 : s < 131
  · exact vm_rng_ok vx_F_readLine_129 s (by omega) (by omega)
  by_cases g130 : s < 132
  · exact vm_rng_ok vx_F_readLine_130 s (by omega) (by omega)
  by_cases g131 : s < 133
  · exact vm_rng_ok vx_F_readLine_131 s (by omega) (by omega)
  by_cases g132 : s < 134
  · exact vm_rng_ok vx_F_readLine_132 s (by omega) (by omega)
  by_cases g133 : s < 135
  · exact vm_rng_ok vx_F_readLine_133 s (by omega) (by omega)
  by_cases g134 : s < 136
  · exact vm_rng_ok vx_F_readLine_134 s (by omega) (by omega)
  by_cases g135 : s < 137
  · exact vm_rng_ok vx_F_readLine_135 s (by omega) (by omega)
  by_cases g136 : s < 138
  · exact vm_rng_ok vx_F_readLine_136 s (by omega) (by omega)
  by_cases g137 : s < 139
  · exact vm_rng_ok vx_F_readLine_137 s (by omega) (by omega)
  by_cases g138 : s < 140
  · exact vm_rng_ok vx_F_readLine_138 s (by omega) (by omega)
  by_cases g139 : s < 141
  · exact vm_rng_ok vx_F_readLine_139 s (by omega) (by omega)
  by_cases g140 : s < 142
  · exact vm_rng_ok vx_F_readLine_140 s (by omega) (by omega)
  by_cases g141 : s < 143
  · exact vm_rng_ok vx_F_readLine_141 s (by omega) (by omega)
  by_cases g142 : s < 144
  · exact vm_rng_ok vx_F_readLine_142 s (by omega) (by omega)
  by_cases g143 : s < 145
  · exact vm_rng_ok vx_F_readLine_143 s (by omega) (by omega)
  by_cases g144 : s < 146
  · exact vm_rng_ok vx_F_readLine_144 s (by omega) (by omega)
  by_cases g145 : s < 147
  · exact vm_rng_ok vx_F_readLine_145 s (by omega) (by omega)
  by_cases g146 : s < 148
  · exact vm_rng_ok vx_F_readLine_146 s (by omega) (by omega)
  by_cases g147 : s < 149
  · exact vm_rng_ok vx_F_readLine_147 s (by omega) (by omega)
  by_cases g148 : s < 150
  · exact vm_rng_ok vx_F_readLine_148 s (by omega) (by omega)
  by_cases g149 : s < 151
  · exact vm_rng_ok vx_F_readLine_149 s (by omega) (by omega)
  by_cases g150 : s < 152
  · exact vm_rng_ok vx_F_readLine_150 s (by omega) (by omega)
  by_cases g151 : s < 153
  · exact vm_rng_ok vx_F_readLine_151 s (by omega) (by omega)
  by_cases g152 : s < 154
  · exact vm_rng_ok vx_F_readLine_152 s (by omega) (by omega)
  exact vm_rng_ok vx_F_readLine_153 s (by omega) (by omega)
theorem v_F_readLine (s : Nat) (h1 : 1 ≤ s) (h2 : s < 155) : vm_at 7 (q_F_readLine s) := by
  have h := vz_F_readLine s h1 h2
  rw [Bool.and_eq_true, Bool.and_eq_true] at h
  exact vm_ok (inl := []) (es := ve_F_readLine s) bq_155 (by decide) (vm_wts (L := 6) (vm_kc (vm_up (vj_898 (s + 2) (by omega)) rfl) (vm_kc (vm_up (vj_898 (s + 1) (by omega)) rfl) (vm_kc (vm_up (vj_898 (s + 0) (by omega)) rfl) (vm_kc (vm_up v_899 rfl) (vm_kc (vm_up v_830 rfl) (vm_kc (vm_up v_832 rfl) (vm_kc (vm_up v_842 rfl) (vm_kc (vm_up v_844 rfl) (vm_kc (vm_up v_848 rfl) (vm_kc (vm_up v_850 rfl) (vm_kc (vm_up v_851 rfl) (vm_kc (vm_up v_917 rfl) (vm_kc (vm_up (v_F_rlo_0 (s + 1) (by omega) (by omega)) rfl) (vm_kc (vm_up (v_F_rlo_1 (s + 1) (by omega) (by omega)) rfl) (vm_kc (vm_up (v_F_rlo_2 (s + 1) (by omega) (by omega)) rfl) (vm_kc (vm_up (v_F_rlo_3 (s + 1) (by omega) (by omega)) rfl) (vm_kc (vm_up (v_F_rlo_6 (s + 1) (by omega) (by omega)) rfl) (vm_kc (vm_up (v_F_rlo_4 (s + 1) (by omega) (by omega)) rfl) (vm_kc (vm_up (v_F_rlo_5 (s + 1) (by omega) (by omega)) rfl) (vm_kc (vm_up (v_F_rlo_0 (s + 0) (by omega) (by omega)) rfl) (vm_kc (vm_up (v_F_rlo_1 (s + 0) (by omega) (by omega)) rfl) (vm_kc (vm_up (v_F_rlo_2 (s + 0) (by omega) (by omega)) rfl) (vm_kc (vm_up (v_F_rlo_3 (s + 0) (by omega) (by omega)) rfl) (vm_kc (vm_up (v_F_rlo_6 (s + 0) (by omega) (by omega)) rfl) (vm_kc (vm_up (v_F_rlo_4 (s + 0) (by omega) (by omega)) rfl) (vm_kc (vm_up (v_F_rlo_5 (s + 0) (by omega) (by omega)) rfl) vm_kn)))))))))))))))))))))))))) h.2.2) h.2.1 (fun i => vm_hc h.1 rfl (fun h => absurd h (Nat.not_lt_zero _))) _ List.mem_cons_self
