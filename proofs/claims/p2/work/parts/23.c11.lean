noncomputable def vp_735 : List vm_R := [(some (.inl (.ofNat 0, .ofNat 0)), va_h0)]
noncomputable def ve_735 : List vm_E := [([.inr (.inl (.negSucc 2147483647, .ofNat 0)), .inr (.inl (.ofNat 1, .ofNat 1)), .inr (.inl (.ofNat 60, .ofNat 60))], va_h0, 0, [0])]
noncomputable def q_735 : vm_Q := (149, [.inr (.inl (.negSucc 2147483647, .ofNat 0)), .inr (.inl (.ofNat 1, .ofNat 1)), .inr (.inl (.ofNat 60, .ofNat 60))], va_h0, vp_735)
noncomputable def vk_735 : List vm_U := []
noncomputable def vf_735 : List ((Nat → am_I) → vm_A) := [fun v => (0, [(0, .inr (.inl (.negSucc 2147483647, .ofNat 0))), (2, .inr (.inl (.ofNat 1, .ofNat 1))), (4, .inr (.inl (.ofNat 60, .ofNat 60)))], [], (80, []))]
noncomputable def vd_735_0_0 : List (List Nat) := [[0]]
noncomputable def vd_735_0 : List (List (List Nat)) := [vd_735_0_0]
noncomputable def vd_735 : List (List (List (List Nat))) := [vd_735_0]
noncomputable def vt_735 : List (List am_I) := []
noncomputable def vc_735 : vm_C := (fun _ => vp_735, fun pc => [], [], 1, vm_inst 8 1 vt_735 vf_735 vd_735)
theorem vx_735_0 : vm_chk bt_149 [] vk_735 8 vc_735 0 1 = true := by decide +kernel
theorem vy_735 : vm_ents 149 8 vc_735 ve_735 = true := by decide +kernel
theorem vw_735 : ∀ q ∈ vk_735, vm_wt 1 q := vm_wts vm_kn (by decide +kernel)
theorem v_735 : vm_at 2 q_735 := vm_ok (inl := []) (es := ve_735) bq_149 (by decide) vw_735 vy_735 (fun i => vm_hc vx_735_0 rfl (fun h => absurd h (Nat.not_lt_zero _))) _ List.mem_cons_self
noncomputable def vp_736 : List vm_R := [(some (.inl (.ofNat 1, .ofNat 1)), va_h0)]
noncomputable def ve_736 : List vm_E := [([.inr (.inl (.ofNat 1, .ofNat 60)), .inr (.inl (.ofNat 1, .ofNat 1)), .inr (.inl (.ofNat 60, .ofNat 60))], va_h0, 0, [0])]
noncomputable def q_736 : vm_Q := (149, [.inr (.inl (.ofNat 1, .ofNat 60)), .inr (.inl (.ofNat 1, .ofNat 1)), .inr (.inl (.ofNat 60, .ofNat 60))], va_h0, vp_736)
noncomputable def vk_736 : List vm_U := []
noncomputable def vf_736 : List ((Nat → am_I) → vm_A) := [fun v => (0, [(0, .inr (.inl (.ofNat 1, .ofNat 60))), (2, .inr (.inl (.ofNat 1, .ofNat 1))), (4, .inr (.inl (.ofNat 60, .ofNat 60)))], [], (80, []))]
noncomputable def vd_736_0_0 : List (List Nat) := [[0]]
noncomputable def vd_736_0 : List (List (List Nat)) := [vd_736_0_0]
noncomputable def vd_736 : List (List (List (List Nat))) := [vd_736_0]
noncomputable def vt_736 : List (List am_I) := []
noncomputable def vc_736 : vm_C := (fun _ => vp_736, fun pc => [], [], 1, vm_inst 8 1 vt_736 vf_736 vd_736)
theorem vx_736_0 : vm_chk bt_149 [] vk_736 13 vc_736 0 1 = true := by decide +kernel
theorem vy_736 : vm_ents 149 13 vc_736 ve_736 = true := by decide +kernel
theorem vw_736 : ∀ q ∈ vk_736, vm_wt 1 q := vm_wts vm_kn (by decide +kernel)
theorem v_736 : vm_at 2 q_736 := vm_ok (inl := []) (es := ve_736) bq_149 (by decide) vw_736 vy_736 (fun i => vm_hc vx_736_0 rfl (fun h => absurd h (Nat.not_lt_zero _))) _ List.mem_cons_self
noncomputable def vp_737 : List vm_R := [(some (.inl (.ofNat 0, .ofNat 0)), va_h0)]
noncomputable def ve_737 : List vm_E := [([.inr (.inl (.ofNat 61, .ofNat 2147483647)), .inr (.inl (.ofNat 1, .ofNat 1)), .inr (.inl (.ofNat 60, .ofNat 60))], va_h0, 0, [0])]
noncomputable def q_737 : vm_Q := (149, [.inr (.inl (.ofNat 61, .ofNat 2147483647)), .inr (.inl (.ofNat 1, .ofNat 1)), .inr (.inl (.ofNat 60, .ofNat 60))], va_h0, vp_737)
noncomputable def vk_737 : List vm_U := []
noncomputable def vf_737 : List ((Nat → am_I) → vm_A) := [fun v => (0, [(0, .inr (.inl (.ofNat 61, .ofNat 2147483647))), (2, .inr (.inl (.ofNat 1, .ofNat 1))), (4, .inr (.inl (.ofNat 60, .ofNat 60)))], [], (80, []))]
noncomputable def vd_737_0_0 : List (List Nat) := [[0]]
noncomputable def vd_737_0 : List (List (List Nat)) := [vd_737_0_0]
noncomputable def vd_737 : List (List (List (List Nat))) := [vd_737_0]
noncomputable def vt_737 : List (List am_I) := []
noncomputable def vc_737 : vm_C := (fun _ => vp_737, fun pc => [], [], 1, vm_inst 8 1 vt_737 vf_737 vd_737)
theorem vx_737_0 : vm_chk bt_149 [] vk_737 12 vc_737 0 1 = true := by decide +kernel
theorem vy_737 : vm_ents 149 12 vc_737 ve_737 = true := by decide +kernel
theorem vw_737 : ∀ q ∈ vk_737, vm_wt 1 q := vm_wts vm_kn (by decide +kernel)
theorem v_737 : vm_at 2 q_737 := vm_ok (inl := []) (es := ve_737) bq_149 (by decide) vw_737 vy_737 (fun i => vm_hc vx_737_0 rfl (fun h => absurd h (Nat.not_lt_zero _))) _ List.mem_cons_self
noncomputable def va_c50 : am_C := .inr (.inr (.inr (7, [.inr (.inr (some 71)), .inr (.inr (some 72)), .inl (.ofNat 2, .ofNat 5), .inl (.ofNat 2, .ofNat 5), .inl (.ofNat 1, .ofNat 5), .inr (.inr (some 73)), .inl (.ofNat 0, .ofNat 5), .inl (.ofNat 0, .ofNat 5), .inl (.ofNat 0, .ofNat 5), .inl am_top, .inl am_top, .inl am_top, .inr (.inr (some 74)), .inl (.ofNat 0, .ofNat 160), .inl (.ofNat 0, .ofNat 160), .inl (.ofNat 0, .ofNat 160), .inl (.ofNat 0, .ofNat 3), .inl am_top, .inl (.ofNat 0, .ofNat 6), .inl am_top, .inr (.inr (some 75)), .inr (.inr (some 76)), .inr (.inr (some 77)), .inr (.inr (some 78)), .inr (.inr (some 79)), .inr (.inr (some 80)), .inr (.inr (some 81)), .inl (.negSucc 0, .ofNat 6), .inr (.inr (some 82)), .inr (.inr (some 83)), .inr (.inr (some 84)), .inr (.inr (some 85)), .inr (.inr (some 86)), .inl am_top, .inr (.inr (some 87))])))
noncomputable def vp_738 : List vm_R := [(some (.inl am_top), va_h0)]
noncomputable def ve_738 : List vm_E := [([.inr (.inr (some 70)), .inl am_top, .inl am_top], va_h0, 0, [0, 1, 2, 424, 425, 426])]
noncomputable def q_738 : vm_Q := (215, [.inr (.inr (some 70)), .inl am_top, .inl am_top], va_h0, vp_738)
noncomputable def vk_738 : List vm_U := [(q_736, true, []), (q_737, true, []), (q_735, true, []), (q_521, true, []), (q_522, true, []), (q_482, false, [(7, 62, 4)]), (q_558, false, [(7, 62, 4)])]
noncomputable def vf_738 : List ((Nat → am_I) → vm_A) := [fun v => (0, [(0, .inr (.inr (some 70))), (1, .inl am_top), (2, .inl (v 0))], [], (80, [(62, .inr (.inr (.inr (7, [.inr (.inr (some 71)), .inr (.inr (some 72)), .inl (.ofNat 2, .ofNat 5), .inl (.ofNat 2, .ofNat 5), .inl (v 1), .inr (.inr (some 73)), .inl (.ofNat 0, .ofNat 5), .inl (.ofNat 0, .ofNat 5), .inl (.ofNat 0, .ofNat 5), .inl am_top, .inl am_top, .inl am_top, .inr (.inr (some 74)), .inl (.ofNat 0, .ofNat 160), .inl (.ofNat 0, .ofNat 160), .inl (.ofNat 0, .ofNat 160), .inl (.ofNat 0, .ofNat 3), .inl am_top, .inl (.ofNat 0, .ofNat 6), .inl am_top, .inr (.inr (some 75)), .inr (.inr (some 76)), .inr (.inr (some 77)), .inr (.inr (some 78)), .inr (.inr (some 79)), .inr (.inr (some 80)), .inr (.inr (some 81)), .inl (.negSucc 0, .ofNat 6), .inr (.inr (some 82)), .inr (.inr (some 83)), .inr (.inr (some 84)), .inr (.inr (some 85)), .inr (.inr (some 86)), .inl am_top, .inr (.inr (some 87))]))))])), fun v => (36, [(0, .inr (.inr (some 70))), (1, .inl am_top), (2, .inl (.ofNat 1, .ofNat 60)), (3, .inl am_top), (4, .inl (.ofNat 0, .ofNat 0)), (5, .inl (.ofNat 0, .ofNat 0))], [], (80, [(62, va_c50)])), fun v => (93, [(0, .inr (.inr (some 70))), (1, .inl am_top), (2, .inl (.ofNat 1, .ofNat 60)), (3, .inl am_top), (4, .inl (v 0)), (5, .inl (v 1)), (6, .inl am_top), (7, .inl (v 2))], [], (80, [(62, va_c50)])), fun v => (36, [(0, .inr (.inr (some 70))), (1, .inl am_top), (2, .inl (.ofNat 1, .ofNat 60)), (3, .inl am_top), (4, .inl (v 0)), (5, .inl (v 1)), (6, .inl am_top), (7, .inl am_top)], [], (80, [(62, va_c50)]))]
noncomputable def vd_738_0_0 : List (List Nat) := [[267311382528, 1023410176, 68440303927296, 65537, 65538, 72129079473733634, 144187768728322050, 216246457982910466], [288305147237498882, 1407671236362242, 1400159404035, 1400159404034, 72417151520210946, 144475840774799362, 216534530029387778, 288593219283976194], [1408796517793794, 2521145868291, 2521145868290, 72704124055060482, 144762813309648898, 216820403052609538, 288877992795570178, 1409904619356162], [3629247430659, 3629247430658, 72986698543398914, 145044288286359554, 217101878029320194, 289159467772280834, 1411004130983938, 4728759058435], [4728759058434, 73268173520109570, 145325763263070210, 217383353006030850, 289440942748991490, 1412103642611714, 5828270686211, 5828270686210], [73549648496820226, 145607238239780866, 217664827982741506, 289722417725702146, 1413203154239490, 6927782313987, 6927782313986, 73831123473530882], [145888713216491522, 217946302959452162, 290003892702412802, 1414302665867266, 8027293941763, 8027293941762, 74112598450241538, 146170188193202178], [218227777936162818, 290285367679123458, 1415402177495042, 9126805569539, 9126805569538, 74394073426952194, 146451663169912834, 218509252912873474]]
noncomputable def vd_738_0_1 : List (List Nat) := [[290566842655834114, 1416501689122818, 10226317197315, 10226317197314, 74675548403662850, 146733138146623490, 218790727889584130, 290848317632544770], [1417601200750594, 11325828825091, 11325828825090, 74957023380373506, 147014613123334146, 219072202866294786, 291129792609255426, 1418700712378370], [12425340452867, 12425340452866, 75238498357084162, 147296088100044802, 219353677843005442, 291411267585966082, 1419800224006146, 13524852080643], [13524852080642, 75519973333794818, 147577563076755458, 219635152819716098, 291692742562676738, 1420899735633922, 14624363708419, 14624363708418], [75801448310505474, 147859038053466114, 219916627796426754, 291974217539387394, 1421999247261698, 15723875336195, 15723875336194, 76082923287216130], [148140513030176770, 220198102773137410, 292255692516098050, 1423098758889474, 16823386963971, 16823386963970, 76364398263926786, 148421988006887426], [220479577749848066, 292537167492808706, 1424198270517250, 17922898591747, 17922898591746, 76645873240637442, 148703462983598082, 220761052726558722], [292818642469519362, 1425297782145026, 19022410219523, 19022410219522, 76927348217348098, 148984937960308738, 221042527703269378, 293100117446230018]]
noncomputable def vd_738_0_2 : List (List Nat) := [[1426397293772802, 20121921847299, 20121921847298, 77208823194058754, 149266412937019394, 221324002679980034, 293381592422940674, 1427496805400578], [21221433475075, 21221433475074, 77490298170769410, 149547887913730050, 221605477656690690, 293663067399651330, 1428596317028354, 22320945102851], [22320945102850, 77771773147480066, 149829362890440706, 221886952633401346, 293944542376361986, 1429695828656130, 23420456730627, 23420456730626], [78053248124190722, 150110837867151362, 222168427610112002, 294226017353072642, 1430795340283906, 24519968358403, 24519968358402, 78334723100901378], [150392312843862018, 222449902586822658, 294507492329783298, 1431894851911682, 25619479986179, 25619479986178, 78616198077612034, 150673787820572674], [222731377563533314, 294788967306493954, 1432994363539458, 26718991613955, 26718991613954, 78897673054322690, 150955262797283330, 223012852540243970], [295070442283204610, 1434093875167234, 27818503241731, 27818503241730, 79179148031033346, 151236737773993986, 223294327516954626, 295351917259915266], [1435193386795010, 28918014869507, 28918014869506, 79460623007744002, 151518212750704642, 223575802493665282, 295633392236625922, 1436292898422786]]
noncomputable def vd_738_0_3 : List (List Nat) := [[30017526497283, 30017526497282, 79742097984454658, 151799687727415298, 223857277470375938, 295914867213336578, 1437392410050562, 31117038125059], [31117038125058, 80023572961165314, 152081162704125954, 224138752447086594, 296196342190047234, 1438491921678338, 32216549752835, 32216549752834], [80305047937875970, 152362637680836610, 224420227423797250, 296477817166757890, 1439591433306114, 33316061380611, 33316061380610, 80586522914586626], [152644112657547266, 224701702400507906, 296759292143468546, 1440690944933890, 34415573008387, 34415573008386, 80867997891297282, 152925587634257922], [224983177377218562, 297040767120179202, 1441790456561666, 35515084636163, 35515084636162, 81149472868007938, 153207062610968578, 225264652353929218], [297322242096889858, 1442889968189442, 36614596263939, 36614596263938, 81430947844718594, 153488537587679234, 225546127330639874, 297603717073600514], [1443989479817218, 37714107891715, 37714107891714, 81712422821429250, 153770012564389890, 225827602307350530, 297885192050311170, 1445088991444994], [38813619519491, 38813619519490, 81993897798139906, 154051487541100546, 226109077284061186, 298166667027021826, 1446188503072770, 39913131147267]]
noncomputable def vd_738_0_4 : List (List Nat) := [[39913131147266, 82275372774850562, 154332962517811202, 226390552260771842, 298448142003732482, 1447288014700546, 41012642775043, 41012642775042], [82556847751561218, 154614437494521858, 226672027237482498, 298729616980443138, 1448387526328322, 42112154402819, 42112154402818, 82838322728271874], [154895912471232514, 226953502214193154, 299011091957153794, 1449487037956098, 43211666030595, 43211666030594, 83119797704982530, 155177387447943170], [227234977190903810, 299292566933864450, 1450586549583874, 44311177658371, 44311177658370, 83401272681693186, 155458862424653826, 227516452167614466], [299574041910575106, 1451686061211650, 45410689286147, 45410689286146, 83682747658403842, 155740337401364482, 227797927144325122, 299855516887285762], [1452785572839426, 46510200913923, 46510200913922, 83964222635114498, 156021812378075138, 228079402121035778, 300136991863996418, 1453885084467202], [47609712541699, 47609712541698, 84245697611825154, 156303287354785794, 228360877097746434, 300418466840707074, 1454984596094978, 48709224169475], [48709224169474, 84527172588535810, 156584762331496450, 228642352074457090, 300699941817417730, 1456084107722754, 49808735797251, 49808735797250]]
noncomputable def vd_738_0_5 : List (List Nat) := [[84808647565246466, 156866237308207106, 228923827051167746, 300981416794128386, 1457183619350530, 50908247425027, 50908247425026, 85090122541957122], [157147712284917762, 229205302027878402, 301262891770839042, 1458283130978306, 52007759052803, 52007759052802, 85371597518667778, 157429187261628418], [229486777004589058, 301544366747549698, 1459382642606082, 53107270680579, 53107270680578, 85653072495378434, 157710662238339074, 229768251981299714], [301825841724260354, 1460482154233858, 54206782308355, 54206782308354, 85934547472089090, 157992137215049730, 230049726958010370, 302107316700971010], [1461581665861634, 55306293936131, 55306293936130, 86216022448799746, 158273612191760386, 230331201934721026, 302388791677681666, 1462681177489410], [56405805563907, 56405805563906, 86497497425510402, 158555087168471042, 230612676911431682, 302670266654392322, 1463780689117186, 57505317191683], [57505317191682, 86778972402221058, 158836562145181698, 230894151888142338, 302951741631102978, 1464880200744962, 58604828819459, 58604828819458], [87060447378931714, 159118037121892354, 231175626864852994, 303233216607813634, 1465979712372738, 59704340447235, 59704340447234, 87341922355642370]]
noncomputable def vd_738_0_6 : List (List Nat) := [[159399512098603010, 231457101841563650, 303514691584524290, 1467079224000514, 60803852075011, 60803852075010, 87623397332353026, 159680987075313666], [231738576818274306, 303796166561234946, 1468178735628290, 61903363702787, 61903363702786, 87904872309063682, 159962462052024322, 232020051794984962], [304077641537945602, 1469278247256066, 63002875330563, 63002875330562, 88186347285774338, 160243937028734978, 232301526771695618, 304359116514656258], [1470377758883842, 64102386958339, 64102386958338, 88467822262484994, 160525412005445634, 232583001748406274, 304640591491366914, 1471477270511618], [65201898586115, 65201898586114, 88749297239195650, 160806886982156290, 232864476725116930, 304922066468077570, 1472576782139394, 258989883395], [1056964608, 267361714176, 1073741824]]
noncomputable def vd_738_0 : List (List (List Nat)) := [vd_738_0_0, vd_738_0_1, vd_738_0_2, vd_738_0_3, vd_738_0_4, vd_738_0_5, vd_738_0_6]
noncomputable def vd_738 : List (List (List (List Nat))) := [vd_738_0]
noncomputable def vt_738 : List (List am_I) := [[(.ofNat 61, .ofNat 2147483647), (.ofNat 1, .ofNat 5), (.ofNat 1, .ofNat 60), (.negSucc 2147483647, .ofNat 0), (.ofNat 0, .ofNat 1), (.ofNat 0, .ofNat 2), (.ofNat 0, .ofNat 3), (.ofNat 0, .ofNat 4)], [(.ofNat 0, .ofNat 5), (.ofNat 0, .ofNat 8), (.ofNat 0, .ofNat 25), (.ofNat 0, .ofNat 64), (.ofNat 0, .ofNat 160), (.ofNat 0, .ofNat 1024), (.ofNat 0, .ofNat 2048), (.ofNat 0, .ofNat 2147483647)], [am_top]]
noncomputable def vc_738 : vm_C := (fun _ => vp_738, fun pc => (match Nat.beq pc 0 with
  | true => [(fun _ _ => some (.inl 2), fun _ _ => some [.ofNat 1, .ofNat 61]), (fun _ _ => some (.inr (62, 4)), fun _ _ => some [.ofNat 1])]
  | false => []), [36, 93], 427, vm_inst 8 61 vt_738 vf_738 vd_738)
theorem vx_738_0 : vm_chk bt_215 [] vk_738 38 vc_738 0 9 = true := by decide +kernel
theorem vx_738_1 : vm_chk bt_215 [] vk_738 38 vc_738 9 9 = true := by decide +kernel
theorem vx_738_2 : vm_chk bt_215 [] vk_738 38 vc_738 18 8 = true := by decide +kernel
theorem vx_738_3 : vm_chk bt_215 [] vk_738 38 vc_738 26 8 = true := by decide +kernel
theorem vx_738_4 : vm_chk bt_215 [] vk_738 38 vc_738 34 8 = true := by decide +kernel
theorem vx_738_5 : vm_chk bt_215 [] vk_738 38 vc_738 42 8 = true := by decide +kernel
theorem vx_738_6 : vm_chk bt_215 [] vk_738 38 vc_738 50 8 = true := by decide +kernel
theorem vx_738_7 : vm_chk bt_215 [] vk_738 38 vc_738 58 9 = true := by decide +kernel
theorem vx_738_8 : vm_chk bt_215 [] vk_738 38 vc_738 67 8 = true := by decide +kernel
theorem vx_738_9 : vm_chk bt_215 [] vk_738 38 vc_738 75 8 = true := by decide +kernel
theorem vx_738_10 : vm_chk bt_215 [] vk_738 38 vc_738 83 8 = true := by decide +kernel
theorem vx_738_11 : vm_chk bt_215 [] vk_738 38 vc_738 91 8 = true := by decide +kernel
theorem vx_738_12 : vm_chk bt_215 [] vk_738 38 vc_738 99 8 = true := by decide +kernel
theorem vx_738_13 : vm_chk bt_215 [] vk_738 38 vc_738 107 9 = true := by decide +kernel
theorem vx_738_14 : vm_chk bt_215 [] vk_738 38 vc_738 116 8 = true := by decide +kernel
theorem vx_738_15 : vm_chk bt_215 [] vk_738 38 vc_738 124 8 = true := by decide +kernel
theorem vx_738_16 : vm_chk bt_215 [] vk_738 38 vc_738 132 8 = true := by decide +kernel
theorem vx_738_17 : vm_chk bt_215 [] vk_738 38 vc_738 140 8 = true := by decide +kernel
theorem vx_738_18 : vm_chk bt_215 [] vk_738 38 vc_738 148 8 = true := by decide +kernel
theorem vx_738_19 : vm_chk bt_215 [] vk_738 38 vc_738 156 9 = true := by decide +kernel
theorem vx_738_20 : vm_chk bt_215 [] vk_738 38 vc_738 165 8 = true := by decide +kernel
theorem vx_738_21 : vm_chk bt_215 [] vk_738 38 vc_738 173 8 = true := by decide +kernel
theorem vx_738_22 : vm_chk bt_215 [] vk_738 38 vc_738 181 8 = true := by decide +kernel
theorem vx_738_23 : vm_chk bt_215 [] vk_738 38 vc_738 189 8 = true := by decide +kernel
theorem vx_738_24 : vm_chk bt_215 [] vk_738 38 vc_738 197 8 = true := by decide +kernel
theorem vx_738_25 : vm_chk bt_215 [] vk_738 38 vc_738 205 9 = true := by decide +kernel
theorem vx_738_26 : vm_chk bt_215 [] vk_738 38 vc_738 214 8 = true := by decide +kernel
theorem vx_738_27 : vm_chk bt_215 [] vk_738 38 vc_738 222 8 = true := by decide +kernel
theorem vx_738_28 : vm_chk bt_215 [] vk_738 38 vc_738 230 8 = true := by decide +kernel
theorem vx_738_29 : vm_chk bt_215 [] vk_738 38 vc_738 238 8 = true := by decide +kernel
theorem vx_738_30 : vm_chk bt_215 [] vk_738 38 vc_738 246 8 = true := by decide +kernel
theorem vx_738_31 : vm_chk bt_215 [] vk_738 38 vc_738 254 9 = true := by decide +kernel
theorem vx_738_32 : vm_chk bt_215 [] vk_738 38 vc_738 263 8 = true := by decide +kernel
theorem vx_738_33 : vm_chk bt_215 [] vk_738 38 vc_738 271 8 = true := by decide +kernel
theorem vx_738_34 : vm_chk bt_215 [] vk_738 38 vc_738 279 8 = true := by decide +kernel
theorem vx_738_35 : vm_chk bt_215 [] vk_738 38 vc_738 287 8 = true := by decide +kernel
theorem vx_738_36 : vm_chk bt_215 [] vk_738 38 vc_738 295 8 = true := by decide +kernel
theorem vx_738_37 : vm_chk bt_215 [] vk_738 38 vc_738 303 9 = true := by decide +kernel
theorem vx_738_38 : vm_chk bt_215 [] vk_738 38 vc_738 312 8 = true := by decide +kernel
theorem vx_738_39 : vm_chk bt_215 [] vk_738 38 vc_738 320 8 = true := by decide +kernel
theorem vx_738_40 : vm_chk bt_215 [] vk_738 38 vc_738 328 8 = true := by decide +kernel
theorem vx_738_41 : vm_chk bt_215 [] vk_738 38 vc_738 336 8 = true := by decide +kernel
theorem vx_738_42 : vm_chk bt_215 [] vk_738 38 vc_738 344 8 = true := by decide +kernel
theorem vx_738_43 : vm_chk bt_215 [] vk_738 38 vc_738 352 9 = true := by decide +kernel
theorem vx_738_44 : vm_chk bt_215 [] vk_738 38 vc_738 361 8 = true := by decide +kernel
theorem vx_738_45 : vm_chk bt_215 [] vk_738 38 vc_738 369 8 = true := by decide +kernel
theorem vx_738_46 : vm_chk bt_215 [] vk_738 38 vc_738 377 8 = true := by decide +kernel
theorem vx_738_47 : vm_chk bt_215 [] vk_738 38 vc_738 385 8 = true := by decide +kernel
theorem vx_738_48 : vm_chk bt_215 [] vk_738 38 vc_738 393 8 = true := by decide +kernel
theorem vx_738_49 : vm_chk bt_215 [] vk_738 38 vc_738 401 9 = true := by decide +kernel
theorem vx_738_50 : vm_chk bt_215 [] vk_738 38 vc_738 410 8 = true := by decide +kernel
theorem vx_738_51 : vm_chk bt_215 [] vk_738 38 vc_738 418 9 = true := by decide +kernel
theorem vy_738 : vm_ents 215 38 vc_738 ve_738 = true := by decide +kernel
theorem vgr_738_0 (i : Nat) : i < 328 → ∃ lo k, lo ≤ i ∧ i < lo + k ∧ vm_chk bt_215 [] vk_738 38 vc_738 lo k = true := vm_hc vx_738_39 rfl (vm_hc vx_738_38 rfl (vm_hc vx_738_37 rfl (vm_hc vx_738_36 rfl (vm_hc vx_738_35 rfl (vm_hc vx_738_34 rfl (vm_hc vx_738_33 rfl (vm_hc vx_738_32 rfl (vm_hc vx_738_31 rfl (vm_hc vx_738_30 rfl (vm_hc vx_738_29 rfl (vm_hc vx_738_28 rfl (vm_hc vx_738_27 rfl (vm_hc vx_738_26 rfl (vm_hc vx_738_25 rfl (vm_hc vx_738_24 rfl (vm_hc vx_738_23 rfl (vm_hc vx_738_22 rfl (vm_hc vx_738_21 rfl (vm_hc vx_738_20 rfl (vm_hc vx_738_19 rfl (vm_hc vx_738_18 rfl (vm_hc vx_738_17 rfl (vm_hc vx_738_16 rfl (vm_hc vx_738_15 rfl (vm_hc vx_738_14 rfl (vm_hc vx_738_13 rfl (vm_hc vx_738_12 rfl (vm_hc vx_738_11 rfl (vm_hc vx_738_10 rfl (vm_hc vx_738_9 rfl (vm_hc vx_738_8 rfl (vm_hc vx_738_7 rfl (vm_hc vx_738_6 rfl (vm_hc vx_738_5 rfl (vm_hc vx_738_4 rfl (vm_hc vx_738_3 rfl (vm_hc vx_738_2 rfl (vm_hc vx_738_1 rfl (vm_hc vx_738_0 rfl (fun h => absurd h (Nat.not_lt_zero _)))))))))))))))))))))))))))))))))))))))))
theorem vgr_738_1 (i : Nat) : i < 427 → ∃ lo k, lo ≤ i ∧ i < lo + k ∧ vm_chk bt_215 [] vk_738 38 vc_738 lo k = true := vm_hc vx_738_51 rfl (vm_hc vx_738_50 rfl (vm_hc vx_738_49 rfl (vm_hc vx_738_48 rfl (vm_hc vx_738_47 rfl (vm_hc vx_738_46 rfl (vm_hc vx_738_45 rfl (vm_hc vx_738_44 rfl (vm_hc vx_738_43 rfl (vm_hc vx_738_42 rfl (vm_hc vx_738_41 rfl (vm_hc vx_738_40 rfl (vgr_738_0 i))))))))))))
theorem vw_738 : ∀ q ∈ vk_738, vm_wt 6 q := vm_wts (vm_kc (vm_up v_736 rfl) (vm_kc (vm_up v_737 rfl) (vm_kc (vm_up v_735 rfl) (vm_kc (vm_up v_521 rfl) (vm_kc (vm_up v_522 rfl) (vm_kc (vm_up v_482 rfl) (vm_kc (vm_up v_558 rfl) vm_kn))))))) (by decide +kernel)
theorem v_738 : vm_at 7 q_738 := vm_ok (inl := []) (es := ve_738) bq_215 (by decide) vw_738 vy_738 (fun i => vgr_738_1 i) _ List.mem_cons_self
noncomputable def vp_739 : List vm_R := [(none, va_h0)]
noncomputable def ve_739 : List vm_E := [([.inr (.inr (some 70)), .inl (.ofNat 44, .ofNat 44), .inl (.ofNat 0, .ofNat 0)], va_h0, 0, [0])]
noncomputable def q_739 : vm_Q := (217, [.inr (.inr (some 70)), .inl (.ofNat 44, .ofNat 44), .inl (.ofNat 0, .ofNat 0)], va_h0, vp_739)
noncomputable def vk_739 : List vm_U := []
noncomputable def vf_739 : List ((Nat → am_I) → vm_A) := [fun v => (0, [(0, .inr (.inr (some 70))), (1, .inl (.ofNat 44, .ofNat 44)), (2, .inl (.ofNat 0, .ofNat 0))], [], (80, [])), fun v => (2, [(0, .inr (.inr (some 70))), (1, .inl (.ofNat 44, .ofNat 44)), (2, .inl (.ofNat 0, .ofNat 0)), (3, .inl (v 0))], [], (80, []))]
noncomputable def vd_739_0_0 : List (List Nat) := [[65536, 65537, 4295032833, 8590000129, 12884967425, 17179934721, 21474902017, 25769869313], [30064836609, 34359803905, 38654771201, 42949738497, 47244705793, 51539673089, 55834640385, 60129607681], [64424574977, 68719542273, 73014509569, 77309476865, 81604444161, 85899411457, 90194378753, 94489346049], [98784313345, 103079280641, 107374247937, 111669215233, 115964182529, 120259149825, 124554117121, 128849084417], [133144051713, 137439019009, 141733986305, 146028953601, 150323920897, 154618888193, 158913855489, 163208822785], [167503790081, 171798757377, 176093724673, 180388691969, 184683659265, 738197505]]
noncomputable def vd_739_0 : List (List (List Nat)) := [vd_739_0_0]
noncomputable def vd_739 : List (List (List (List Nat))) := [vd_739_0]
noncomputable def vt_739 : List (List am_I) := []
noncomputable def vc_739 : vm_C := (fun _ => vp_739, fun pc => [], [2], 46, vm_inst 8 45 vt_739 vf_739 vd_739)
theorem vx_739_0 : vm_chk bt_217 [] vk_739 20 vc_739 0 11 = true := by decide +kernel
theorem vx_739_1 : vm_chk bt_217 [] vk_739 20 vc_739 11 10 = true := by decide +kernel
theorem vx_739_2 : vm_chk bt_217 [] vk_739 20 vc_739 21 10 = true := by decide +kernel
theorem vx_739_3 : vm_chk bt_217 [] vk_739 20 vc_739 31 10 = true := by decide +kernel
theorem vx_739_4 : vm_chk bt_217 [] vk_739 20 vc_739 41 5 = true := by decide +kernel
theorem vy_739 : vm_ents 217 20 vc_739 ve_739 = true := by decide +kernel
theorem vw_739 : ∀ q ∈ vk_739, vm_wt 1 q := vm_wts vm_kn (by decide +kernel)
theorem v_739 : vm_at 2 q_739 := vm_ok (inl := []) (es := ve_739) bq_217 (by decide) vw_739 vy_739 (fun i => vm_hc vx_739_4 rfl (vm_hc vx_739_3 rfl (vm_hc vx_739_2 rfl (vm_hc vx_739_1 rfl (vm_hc vx_739_0 rfl (fun h => absurd h (Nat.not_lt_zero _))))))) _ List.mem_cons_self
noncomputable def vp_740 : List vm_R := [(none, va_h0)]
noncomputable def ve_740 : List vm_E := [([.inr (.inr (some 70)), .inl (.ofNat 88, .ofNat 88), .inl (.ofNat 0, .ofNat 0)], va_h0, 0, [0])]
noncomputable def q_740 : vm_Q := (217, [.inr (.inr (some 70)), .inl (.ofNat 88, .ofNat 88), .inl (.ofNat 0, .ofNat 0)], va_h0, vp_740)
noncomputable def vk_740 : List vm_U := []
noncomputable def vf_740 : List ((Nat → am_I) → vm_A) := [fun v => (0, [(0, .inr (.inr (some 70))), (1, .inl (.ofNat 88, .ofNat 88)), (2, .inl (.ofNat 0, .ofNat 0))], [], (80, [])), fun v => (2, [(0, .inr (.inr (some 70))), (1, .inl (.ofNat 88, .ofNat 88)), (2, .inl (.ofNat 0, .ofNat 0)), (3, .inl (v 0))], [], (80, []))]
noncomputable def vd_740_0_0 : List (List Nat) := [[65536, 65537, 4295032833, 8590000129, 12884967425, 17179934721, 21474902017, 25769869313], [30064836609, 34359803905, 38654771201, 42949738497, 47244705793, 51539673089, 55834640385, 60129607681], [64424574977, 68719542273, 73014509569, 77309476865, 81604444161, 85899411457, 90194378753, 94489346049], [98784313345, 103079280641, 107374247937, 111669215233, 115964182529, 120259149825, 124554117121, 128849084417], [133144051713, 137439019009, 141733986305, 146028953601, 150323920897, 154618888193, 158913855489, 163208822785], [167503790081, 171798757377, 176093724673, 180388691969, 184683659265, 738197505]]
noncomputable def vd_740_0 : List (List (List Nat)) := [vd_740_0_0]
noncomputable def vd_740 : List (List (List (List Nat))) := [vd_740_0]
noncomputable def vt_740 : List (List am_I) := []
noncomputable def vc_740 : vm_C := (fun _ => vp_740, fun pc => [], [2], 46, vm_inst 8 45 vt_740 vf_740 vd_740)
theorem vx_740_0 : vm_chk bt_217 [] vk_740 20 vc_740 0 11 = true := by decide +kernel
theorem vx_740_1 : vm_chk bt_217 [] vk_740 20 vc_740 11 10 = true := by decide +kernel
theorem vx_740_2 : vm_chk bt_217 [] vk_740 20 vc_740 21 10 = true := by decide +kernel
theorem vx_740_3 : vm_chk bt_217 [] vk_740 20 vc_740 31 10 = true := by decide +kernel
theorem vx_740_4 : vm_chk bt_217 [] vk_740 20 vc_740 41 5 = true := by decide +kernel
theorem vy_740 : vm_ents 217 20 vc_740 ve_740 = true := by decide +kernel
theorem vw_740 : ∀ q ∈ vk_740, vm_wt 1 q := vm_wts vm_kn (by decide +kernel)
theorem v_740 : vm_at 2 q_740 := vm_ok (inl := []) (es := ve_740) bq_217 (by decide) vw_740 vy_740 (fun i => vm_hc vx_740_4 rfl (vm_hc vx_740_3 rfl (vm_hc vx_740_2 rfl (vm_hc vx_740_1 rfl (vm_hc vx_740_0 rfl (fun h => absurd h (Nat.not_lt_zero _))))))) _ List.mem_cons_self
noncomputable def vp_741 : List vm_R := [(none, va_h0)]
noncomputable def ve_741 : List vm_E := [([.inr (.inr (some 70)), .inl (.ofNat 0, .ofNat 0), .inl (.ofNat 44, .ofNat 44)], va_h0, 0, [0])]
noncomputable def q_741 : vm_Q := (217, [.inr (.inr (some 70)), .inl (.ofNat 0, .ofNat 0), .inl (.ofNat 44, .ofNat 44)], va_h0, vp_741)
noncomputable def vk_741 : List vm_U := []
noncomputable def vf_741 : List ((Nat → am_I) → vm_A) := [fun v => (0, [(0, .inr (.inr (some 70))), (1, .inl (.ofNat 0, .ofNat 0)), (2, .inl (.ofNat 44, .ofNat 44))], [], (80, [])), fun v => (2, [(0, .inr (.inr (some 70))), (1, .inl (.ofNat 0, .ofNat 0)), (2, .inl (.ofNat 44, .ofNat 44)), (3, .inl (v 0))], [], (80, []))]
noncomputable def vd_741_0_0 : List (List Nat) := [[65536, 65537, 4295032833, 8590000129, 12884967425, 17179934721, 21474902017, 25769869313], [30064836609, 34359803905, 38654771201, 42949738497, 47244705793, 51539673089, 55834640385, 60129607681], [64424574977, 68719542273, 73014509569, 77309476865, 81604444161, 85899411457, 90194378753, 94489346049], [98784313345, 103079280641, 107374247937, 111669215233, 115964182529, 120259149825, 124554117121, 128849084417], [133144051713, 137439019009, 141733986305, 146028953601, 150323920897, 154618888193, 158913855489, 163208822785], [167503790081, 171798757377, 176093724673, 180388691969, 184683659265, 738197505]]
noncomputable def vd_741_0 : List (List (List Nat)) := [vd_741_0_0]
noncomputable def vd_741 : List (List (List (List Nat))) := [vd_741_0]
noncomputable def vt_741 : List (List am_I) := []
noncomputable def vc_741 : vm_C := (fun _ => vp_741, fun pc => [], [2], 46, vm_inst 8 45 vt_741 vf_741 vd_741)
theorem vx_741_0 : vm_chk bt_217 [] vk_741 20 vc_741 0 11 = true := by decide +kernel
theorem vx_741_1 : vm_chk bt_217 [] vk_741 20 vc_741 11 10 = true := by decide +kernel
theorem vx_741_2 : vm_chk bt_217 [] vk_741 20 vc_741 21 10 = true := by decide +kernel
theorem vx_741_3 : vm_chk bt_217 [] vk_741 20 vc_741 31 10 = true := by decide +kernel
theorem vx_741_4 : vm_chk bt_217 [] vk_741 20 vc_741 41 5 = true := by decide +kernel
theorem vy_741 : vm_ents 217 20 vc_741 ve_741 = true := by decide +kernel
theorem vw_741 : ∀ q ∈ vk_741, vm_wt 1 q := vm_wts vm_kn (by decide +kernel)
theorem v_741 : vm_at 2 q_741 := vm_ok (inl := []) (es := ve_741) bq_217 (by decide) vw_741 vy_741 (fun i => vm_hc vx_741_4 rfl (vm_hc vx_741_3 rfl (vm_hc vx_741_2 rfl (vm_hc vx_741_1 rfl (vm_hc vx_741_0 rfl (fun h => absurd h (Nat.not_lt_zero _))))))) _ List.mem_cons_self
noncomputable def vp_742 : List vm_R := [(none, va_h0)]
noncomputable def ve_742 : List vm_E := [([.inr (.inr (some 70)), .inl (.ofNat 0, .ofNat 0), .inl (.ofNat 88, .ofNat 88)], va_h0, 0, [0])]
noncomputable def q_742 : vm_Q := (217, [.inr (.inr (some 70)), .inl (.ofNat 0, .ofNat 0), .inl (.ofNat 88, .ofNat 88)], va_h0, vp_742)
noncomputable def vk_742 : List vm_U := []
noncomputable def vf_742 : List ((Nat → am_I) → vm_A) := [fun v => (0, [(0, .inr (.inr (some 70))), (1, .inl (.ofNat 0, .ofNat 0)), (2, .inl (.ofNat 88, .ofNat 88))], [], (80, [])), fun v => (2, [(0, .inr (.inr (some 70))), (1, .inl (.ofNat 0, .ofNat 0)), (2, .inl (.ofNat 88, .ofNat 88)), (3, .inl (v 0))], [], (80, []))]
noncomputable def vd_742_0_0 : List (List Nat) := [[65536, 65537, 4295032833, 8590000129, 12884967425, 17179934721, 21474902017, 25769869313], [30064836609, 34359803905, 38654771201, 42949738497, 47244705793, 51539673089, 55834640385, 60129607681], [64424574977, 68719542273, 73014509569, 77309476865, 81604444161, 85899411457, 90194378753, 94489346049], [98784313345, 103079280641, 107374247937, 111669215233, 115964182529, 120259149825, 124554117121, 128849084417], [133144051713, 137439019009, 141733986305, 146028953601, 150323920897, 154618888193, 158913855489, 163208822785], [167503790081, 171798757377, 176093724673, 180388691969, 184683659265, 738197505]]
noncomputable def vd_742_0 : List (List (List Nat)) := [vd_742_0_0]
noncomputable def vd_742 : List (List (List (List Nat))) := [vd_742_0]
noncomputable def vt_742 : List (List am_I) := []
noncomputable def vc_742 : vm_C := (fun _ => vp_742, fun pc => [], [2], 46, vm_inst 8 45 vt_742 vf_742 vd_742)
theorem vx_742_0 : vm_chk bt_217 [] vk_742 20 vc_742 0 11 = true := by decide +kernel
theorem vx_742_1 : vm_chk bt_217 [] vk_742 20 vc_742 11 10 = true := by decide +kernel
theorem vx_742_2 : vm_chk bt_217 [] vk_742 20 vc_742 21 10 = true := by decide +kernel
theorem vx_742_3 : vm_chk bt_217 [] vk_742 20 vc_742 31 10 = true := by decide +kernel
theorem vx_742_4 : vm_chk bt_217 [] vk_742 20 vc_742 41 5 = true := by decide +kernel
theorem vy_742 : vm_ents 217 20 vc_742 ve_742 = true := by decide +kernel
theorem vw_742 : ∀ q ∈ vk_742, vm_wt 1 q := vm_wts vm_kn (by decide +kernel)
theorem v_742 : vm_at 2 q_742 := vm_ok (inl := []) (es := ve_742) bq_217 (by decide) vw_742 vy_742 (fun i => vm_hc vx_742_4 rfl (vm_hc vx_742_3 rfl (vm_hc vx_742_2 rfl (vm_hc vx_742_1 rfl (vm_hc vx_742_0 rfl (fun h => absurd h (Nat.not_lt_zero _))))))) _ List.mem_cons_self
noncomputable def vp_743 : List vm_R := [(some (.inl (.ofNat 0, .ofNat 0)), va_h0)]
noncomputable def ve_743 : List vm_E := [([.inr (.inl (.negSucc 2147483647, .negSucc 0)), .inr (.inl (.ofNat 0, .ofNat 0)), .inr (.inl (.ofNat 1, .ofNat 1))], va_h0, 0, [0])]
noncomputable def q_743 : vm_Q := (149, [.inr (.inl (.negSucc 2147483647, .negSucc 0)), .inr (.inl (.ofNat 0, .ofNat 0)), .inr (.inl (.ofNat 1, .ofNat 1))], va_h0, vp_743)
noncomputable def vk_743 : List vm_U := []
noncomputable def vf_743 : List ((Nat → am_I) → vm_A) := [fun v => (0, [(0, .inr (.inl (.negSucc 2147483647, .negSucc 0))), (2, .inr (.inl (.ofNat 0, .ofNat 0))), (4, .inr (.inl (.ofNat 1, .ofNat 1)))], [], (80, []))]
noncomputable def vd_743_0_0 : List (List Nat) := [[0]]
noncomputable def vd_743_0 : List (List (List Nat)) := [vd_743_0_0]
noncomputable def vd_743 : List (List (List (List Nat))) := [vd_743_0]
noncomputable def vt_743 : List (List am_I) := []
noncomputable def vc_743 : vm_C := (fun _ => vp_743, fun pc => [], [], 1, vm_inst 8 1 vt_743 vf_743 vd_743)
theorem vx_743_0 : vm_chk bt_149 [] vk_743 8 vc_743 0 1 = true := by decide +kernel
theorem vy_743 : vm_ents 149 8 vc_743 ve_743 = true := by decide +kernel
theorem vw_743 : ∀ q ∈ vk_743, vm_wt 1 q := vm_wts vm_kn (by decide +kernel)
theorem v_743 : vm_at 2 q_743 := vm_ok (inl := []) (es := ve_743) bq_149 (by decide) vw_743 vy_743 (fun i => vm_hc vx_743_0 rfl (fun h => absurd h (Nat.not_lt_zero _))) _ List.mem_cons_self
noncomputable def vp_744 : List vm_R := [(some (.inl (.ofNat 1, .ofNat 1)), va_h0)]
noncomputable def ve_744 : List vm_E := [([.inr (.inl (.ofNat 0, .ofNat 0)), .inr (.inl (.ofNat 0, .ofNat 0)), .inr (.inl (.ofNat 1, .ofNat 1))], va_h0, 0, [0])]
noncomputable def q_744 : vm_Q := (149, [.inr (.inl (.ofNat 0, .ofNat 0)), .inr (.inl (.ofNat 0, .ofNat 0)), .inr (.inl (.ofNat 1, .ofNat 1))], va_h0, vp_744)
noncomputable def vk_744 : List vm_U := []
noncomputable def vf_744 : List ((Nat → am_I) → vm_A) := [fun v => (0, [(0, .inr (.inl (.ofNat 0, .ofNat 0))), (2, .inr (.inl (.ofNat 0, .ofNat 0))), (4, .inr (.inl (.ofNat 1, .ofNat 1)))], [], (80, []))]
noncomputable def vd_744_0_0 : List (List Nat) := [[0]]
noncomputable def vd_744_0 : List (List (List Nat)) := [vd_744_0_0]
noncomputable def vd_744 : List (List (List (List Nat))) := [vd_744_0]
noncomputable def vt_744 : List (List am_I) := []
noncomputable def vc_744 : vm_C := (fun _ => vp_744, fun pc => [], [], 1, vm_inst 8 1 vt_744 vf_744 vd_744)
theorem vx_744_0 : vm_chk bt_149 [] vk_744 13 vc_744 0 1 = true := by decide +kernel
theorem vy_744 : vm_ents 149 13 vc_744 ve_744 = true := by decide +kernel
theorem vw_744 : ∀ q ∈ vk_744, vm_wt 1 q := vm_wts vm_kn (by decide +kernel)
theorem v_744 : vm_at 2 q_744 := vm_ok (inl := []) (es := ve_744) bq_149 (by decide) vw_744 vy_744 (fun i => vm_hc vx_744_0 rfl (fun h => absurd h (Nat.not_lt_zero _))) _ List.mem_cons_self
noncomputable def vp_745 : List vm_R := [(some (.inl (.ofNat 1, .ofNat 1)), va_h0)]
noncomputable def ve_745 : List vm_E := [([.inr (.inl (.ofNat 1, .ofNat 1)), .inr (.inl (.ofNat 0, .ofNat 0)), .inr (.inl (.ofNat 1, .ofNat 1))], va_h0, 0, [0])]
noncomputable def q_745 : vm_Q := (149, [.inr (.inl (.ofNat 1, .ofNat 1)), .inr (.inl (.ofNat 0, .ofNat 0)), .inr (.inl (.ofNat 1, .ofNat 1))], va_h0, vp_745)
noncomputable def vk_745 : List vm_U := []
noncomputable def vf_745 : List ((Nat → am_I) → vm_A) := [fun v => (0, [(0, .inr (.inl (.ofNat 1, .ofNat 1))), (2, .inr (.inl (.ofNat 0, .ofNat 0))), (4, .inr (.inl (.ofNat 1, .ofNat 1)))], [], (80, []))]
noncomputable def vd_745_0_0 : List (List Nat) := [[0]]
noncomputable def vd_745_0 : List (List (List Nat)) := [vd_745_0_0]
noncomputable def vd_745 : List (List (List (List Nat))) := [vd_745_0]
noncomputable def vt_745 : List (List am_I) := []
noncomputable def vc_745 : vm_C := (fun _ => vp_745, fun pc => [], [], 1, vm_inst 8 1 vt_745 vf_745 vd_745)
theorem vx_745_0 : vm_chk bt_149 [] vk_745 13 vc_745 0 1 = true := by decide +kernel
theorem vy_745 : vm_ents 149 13 vc_745 ve_745 = true := by decide +kernel
theorem vw_745 : ∀ q ∈ vk_745, vm_wt 1 q := vm_wts vm_kn (by decide +kernel)
theorem v_745 : vm_at 2 q_745 := vm_ok (inl := []) (es := ve_745) bq_149 (by decide) vw_745 vy_745 (fun i => vm_hc vx_745_0 rfl (fun h => absurd h (Nat.not_lt_zero _))) _ List.mem_cons_self
noncomputable def vp_746 : List vm_R := [(some (.inl (.ofNat 0, .ofNat 0)), va_h0)]
noncomputable def ve_746 : List vm_E := [([.inr (.inl (.ofNat 2, .ofNat 2147483647)), .inr (.inl (.ofNat 0, .ofNat 0)), .inr (.inl (.ofNat 1, .ofNat 1))], va_h0, 0, [0])]
noncomputable def q_746 : vm_Q := (149, [.inr (.inl (.ofNat 2, .ofNat 2147483647)), .inr (.inl (.ofNat 0, .ofNat 0)), .inr (.inl (.ofNat 1, .ofNat 1))], va_h0, vp_746)
noncomputable def vk_746 : List vm_U := []
noncomputable def vf_746 : List ((Nat → am_I) → vm_A) := [fun v => (0, [(0, .inr (.inl (.ofNat 2, .ofNat 2147483647))), (2, .inr (.inl (.ofNat 0, .ofNat 0))), (4, .inr (.inl (.ofNat 1, .ofNat 1)))], [], (80, []))]
noncomputable def vd_746_0_0 : List (List Nat) := [[0]]
noncomputable def vd_746_0 : List (List (List Nat)) := [vd_746_0_0]
noncomputable def vd_746 : List (List (List (List Nat))) := [vd_746_0]
noncomputable def vt_746 : List (List am_I) := []
noncomputable def vc_746 : vm_C := (fun _ => vp_746, fun pc => [], [], 1, vm_inst 8 1 vt_746 vf_746 vd_746)
theorem vx_746_0 : vm_chk bt_149 [] vk_746 12 vc_746 0 1 = true := by decide +kernel
theorem vy_746 : vm_ents 149 12 vc_746 ve_746 = true := by decide +kernel
theorem vw_746 : ∀ q ∈ vk_746, vm_wt 1 q := vm_wts vm_kn (by decide +kernel)
theorem v_746 : vm_at 2 q_746 := vm_ok (inl := []) (es := ve_746) bq_149 (by decide) vw_746 vy_746 (fun i => vm_hc vx_746_0 rfl (fun h => absurd h (Nat.not_lt_zero _))) _ List.mem_cons_self
noncomputable def vp_747 : List vm_R := [(some (.inl (.negSucc 0, .ofNat 1)), va_h0)]
noncomputable def ve_747 : List vm_E := [([.inr (.inr (some 70)), .inl am_top], va_h0, 0, [0, 1, 2, 3])]
noncomputable def q_747 : vm_Q := (216, [.inr (.inr (some 70)), .inl am_top], va_h0, vp_747)
noncomputable def vk_747 : List vm_U := [(q_744, true, []), (q_745, true, []), (q_746, true, []), (q_743, true, []), (q_527, true, []), (q_739, false, []), (q_740, false, [])]
noncomputable def vf_747 : List ((Nat → am_I) → vm_A) := [fun v => (0, [(0, .inr (.inr (some 70))), (1, .inl (v 0))], [], (80, []))]
noncomputable def vd_747_0_0 : List (List Nat) := [[33554432, 16777216, 0, 50331648]]
noncomputable def vd_747_0 : List (List (List Nat)) := [vd_747_0_0]
noncomputable def vd_747 : List (List (List (List Nat))) := [vd_747_0]
noncomputable def vt_747 : List (List am_I) := [[(.ofNat 2, .ofNat 2147483647), (.negSucc 2147483647, .negSucc 0)]]
noncomputable def vc_747 : vm_C := (fun _ => vp_747, fun pc => (match Nat.beq pc 0 with
  | true => [(fun _ _ => some (.inl 1), fun _ _ => some [.ofNat 0, .ofNat 1, .ofNat 2])]
  | false => []), [], 4, vm_inst 8 2 vt_747 vf_747 vd_747)
theorem vx_747_0 : vm_chk bt_216 [] vk_747 29 vc_747 0 4 = true := by decide +kernel
theorem vy_747 : vm_ents 216 29 vc_747 ve_747 = true := by decide +kernel
theorem vw_747 : ∀ q ∈ vk_747, vm_wt 2 q := vm_wts (vm_kc (vm_up v_744 rfl) (vm_kc (vm_up v_745 rfl) (vm_kc (vm_up v_746 rfl) (vm_kc (vm_up v_743 rfl) (vm_kc (vm_up v_527 rfl) (vm_kc (vm_up v_739 rfl) (vm_kc (vm_up v_740 rfl) vm_kn))))))) (by decide +kernel)
theorem v_747 : vm_at 3 q_747 := vm_ok (inl := []) (es := ve_747) bq_216 (by decide) vw_747 vy_747 (fun i => vm_hc vx_747_0 rfl (fun h => absurd h (Nat.not_lt_zero _))) _ List.mem_cons_self
noncomputable def vp_748 : List vm_R := [(some (.inl am_top), va_h0)]
noncomputable def ve_748 : List vm_E := [([.inr (.inr (some 70)), .inl am_top], va_h0, 0, [0, 1, 2, 3])]
noncomputable def q_748 : vm_Q := (218, [.inr (.inr (some 70)), .inl am_top], va_h0, vp_748)
noncomputable def vk_748 : List vm_U := [(q_744, true, []), (q_745, true, []), (q_746, true, []), (q_743, true, []), (q_741, false, []), (q_742, false, [])]
noncomputable def vf_748 : List ((Nat → am_I) → vm_A) := [fun v => (0, [(0, .inr (.inr (some 70))), (1, .inl (v 0))], [], (80, []))]
noncomputable def vd_748_0_0 : List (List Nat) := [[33554432, 16777216, 0, 50331648]]
noncomputable def vd_748_0 : List (List (List Nat)) := [vd_748_0_0]
noncomputable def vd_748 : List (List (List (List Nat))) := [vd_748_0]
noncomputable def vt_748 : List (List am_I) := [[(.ofNat 2, .ofNat 2147483647), (.negSucc 2147483647, .negSucc 0)]]
noncomputable def vc_748 : vm_C := (fun _ => vp_748, fun pc => (match Nat.beq pc 0 with
  | true => [(fun _ _ => some (.inl 1), fun _ _ => some [.ofNat 0, .ofNat 1, .ofNat 2])]
  | false => []), [], 4, vm_inst 8 2 vt_748 vf_748 vd_748)
theorem vx_748_0 : vm_chk bt_218 [] vk_748 26 vc_748 0 4 = true := by decide +kernel
theorem vy_748 : vm_ents 218 26 vc_748 ve_748 = true := by decide +kernel
theorem vw_748 : ∀ q ∈ vk_748, vm_wt 2 q := vm_wts (vm_kc (vm_up v_744 rfl) (vm_kc (vm_up v_745 rfl) (vm_kc (vm_up v_746 rfl) (vm_kc (vm_up v_743 rfl) (vm_kc (vm_up v_741 rfl) (vm_kc (vm_up v_742 rfl) vm_kn)))))) (by decide +kernel)
theorem v_748 : vm_at 3 q_748 := vm_ok (inl := []) (es := ve_748) bq_218 (by decide) vw_748 vy_748 (fun i => vm_hc vx_748_0 rfl (fun h => absurd h (Nat.not_lt_zero _))) _ List.mem_cons_self
noncomputable def vp_749 : List vm_R := [(some (.inl (.ofNat 0, .ofNat 0)), va_h0)]
noncomputable def ve_749 : List vm_E := [([.inl (.negSucc 2147483647, .negSucc 0), .inl am_top], va_h0, 0, [0])]
noncomputable def q_749 : vm_Q := (220, [.inl (.negSucc 2147483647, .negSucc 0), .inl am_top], va_h0, vp_749)
noncomputable def vk_749 : List vm_U := [(q_571, true, [])]
noncomputable def vf_749 : List ((Nat → am_I) → vm_A) := [fun v => (0, [(0, .inl (.negSucc 2147483647, .negSucc 0)), (1, .inl am_top)], [], (80, []))]
noncomputable def vd_749_0_0 : List (List Nat) := [[0]]
noncomputable def vd_749_0 : List (List (List Nat)) := [vd_749_0_0]
noncomputable def vd_749 : List (List (List (List Nat))) := [vd_749_0]
noncomputable def vt_749 : List (List am_I) := []
noncomputable def vc_749 : vm_C := (fun _ => vp_749, fun pc => [], [], 1, vm_inst 8 1 vt_749 vf_749 vd_749)
theorem vx_749_0 : vm_chk bt_220 [] vk_749 10 vc_749 0 1 = true := by decide +kernel
theorem vy_749 : vm_ents 220 10 vc_749 ve_749 = true := by decide +kernel
theorem vw_749 : ∀ q ∈ vk_749, vm_wt 2 q := vm_wts (vm_kc (vm_up v_571 rfl) vm_kn) (by decide +kernel)
theorem v_749 : vm_at 3 q_749 := vm_ok (inl := []) (es := ve_749) bq_220 (by decide) vw_749 vy_749 (fun i => vm_hc vx_749_0 rfl (fun h => absurd h (Nat.not_lt_zero _))) _ List.mem_cons_self
noncomputable def vp_750 : List vm_R := [(some (.inl (.ofNat 0, .ofNat 1)), va_h0)]
noncomputable def ve_750 : List vm_E := [([.inr (.inl am_top), .inr (.inl (.ofNat 0, .ofNat 0)), .inr (.inl (.ofNat 2, .ofNat 2))], va_h0, 0, [0])]
noncomputable def q_750 : vm_Q := (149, [.inr (.inl am_top), .inr (.inl (.ofNat 0, .ofNat 0)), .inr (.inl (.ofNat 2, .ofNat 2))], va_h0, vp_750)
noncomputable def vk_750 : List vm_U := []
noncomputable def vf_750 : List ((Nat → am_I) → vm_A) := [fun v => (0, [(0, .inr (.inl am_top)), (2, .inr (.inl (.ofNat 0, .ofNat 0))), (4, .inr (.inl (.ofNat 2, .ofNat 2)))], [], (80, []))]
noncomputable def vd_750_0_0 : List (List Nat) := [[0]]
noncomputable def vd_750_0 : List (List (List Nat)) := [vd_750_0_0]
noncomputable def vd_750 : List (List (List (List Nat))) := [vd_750_0]
noncomputable def vt_750 : List (List am_I) := []
noncomputable def vc_750 : vm_C := (fun _ => vp_750, fun pc => [], [], 1, vm_inst 8 1 vt_750 vf_750 vd_750)
theorem vx_750_0 : vm_chk bt_149 [] vk_750 13 vc_750 0 1 = true := by decide +kernel
theorem vy_750 : vm_ents 149 13 vc_750 ve_750 = true := by decide +kernel
theorem vw_750 : ∀ q ∈ vk_750, vm_wt 1 q := vm_wts vm_kn (by decide +kernel)
theorem v_750 : vm_at 2 q_750 := vm_ok (inl := []) (es := ve_750) bq_149 (by decide) vw_750 vy_750 (fun i => vm_hc vx_750_0 rfl (fun h => absurd h (Nat.not_lt_zero _))) _ List.mem_cons_self
noncomputable def vp_751 : List vm_R := [(some (.inl (.ofNat 0, .ofNat 1)), va_h0)]
noncomputable def ve_751 : List vm_E := [([.inl (.ofNat 0, .ofNat 0), .inl am_top], va_h0, 0, [0])]
noncomputable def q_751 : vm_Q := (220, [.inl (.ofNat 0, .ofNat 0), .inl am_top], va_h0, vp_751)
noncomputable def vk_751 : List vm_U := [(q_572, true, []), (q_750, true, [])]
noncomputable def vf_751 : List ((Nat → am_I) → vm_A) := [fun v => (0, [(0, .inl (.ofNat 0, .ofNat 0)), (1, .inl am_top)], [], (80, []))]
noncomputable def vd_751_0_0 : List (List Nat) := [[0]]
noncomputable def vd_751_0 : List (List (List Nat)) := [vd_751_0_0]
noncomputable def vd_751 : List (List (List (List Nat))) := [vd_751_0]
noncomputable def vt_751 : List (List am_I) := []
noncomputable def vc_751 : vm_C := (fun _ => vp_751, fun pc => [], [], 1, vm_inst 8 1 vt_751 vf_751 vd_751)
theorem vx_751_0 : vm_chk bt_220 [] vk_751 17 vc_751 0 1 = true := by decide +kernel
theorem vy_751 : vm_ents 220 17 vc_751 ve_751 = true := by decide +kernel
theorem vw_751 : ∀ q ∈ vk_751, vm_wt 2 q := vm_wts (vm_kc (vm_up v_572 rfl) (vm_kc (vm_up v_750 rfl) vm_kn)) (by decide +kernel)
theorem v_751 : vm_at 3 q_751 := vm_ok (inl := []) (es := ve_751) bq_220 (by decide) vw_751 vy_751 (fun i => vm_hc vx_751_0 rfl (fun h => absurd h (Nat.not_lt_zero _))) _ List.mem_cons_self
noncomputable def vp_752 : List vm_R := [(some (.inl (.ofNat 0, .ofNat 1)), va_h0)]
noncomputable def ve_752 : List vm_E := [([.inl (.ofNat 1, .ofNat 1), .inl am_top], va_h0, 0, [0])]
noncomputable def q_752 : vm_Q := (220, [.inl (.ofNat 1, .ofNat 1), .inl am_top], va_h0, vp_752)
noncomputable def vk_752 : List vm_U := [(q_573, true, []), (q_750, true, [])]
noncomputable def vf_752 : List ((Nat → am_I) → vm_A) := [fun v => (0, [(0, .inl (.ofNat 1, .ofNat 1)), (1, .inl am_top)], [], (80, []))]
noncomputable def vd_752_0_0 : List (List Nat) := [[0]]
noncomputable def vd_752_0 : List (List (List Nat)) := [vd_752_0_0]
noncomputable def vd_752 : List (List (List (List Nat))) := [vd_752_0]
noncomputable def vt_752 : List (List am_I) := []
noncomputable def vc_752 : vm_C := (fun _ => vp_752, fun pc => [], [], 1, vm_inst 8 1 vt_752 vf_752 vd_752)
theorem vx_752_0 : vm_chk bt_220 [] vk_752 17 vc_752 0 1 = true := by decide +kernel
theorem vy_752 : vm_ents 220 17 vc_752 ve_752 = true := by decide +kernel
theorem vw_752 : ∀ q ∈ vk_752, vm_wt 2 q := vm_wts (vm_kc (vm_up v_573 rfl) (vm_kc (vm_up v_750 rfl) vm_kn)) (by decide +kernel)
theorem v_752 : vm_at 3 q_752 := vm_ok (inl := []) (es := ve_752) bq_220 (by decide) vw_752 vy_752 (fun i => vm_hc vx_752_0 rfl (fun h => absurd h (Nat.not_lt_zero _))) _ List.mem_cons_self
noncomputable def vp_753 : List vm_R := [(some (.inl (.ofNat 0, .ofNat 1)), va_h0)]
noncomputable def ve_753 : List vm_E := [([.inl (.ofNat 2, .ofNat 2), .inl am_top], va_h0, 0, [0])]
noncomputable def q_753 : vm_Q := (220, [.inl (.ofNat 2, .ofNat 2), .inl am_top], va_h0, vp_753)
noncomputable def vk_753 : List vm_U := [(q_574, true, []), (q_750, true, [])]
noncomputable def vf_753 : List ((Nat → am_I) → vm_A) := [fun v => (0, [(0, .inl (.ofNat 2, .ofNat 2)), (1, .inl am_top)], [], (80, []))]
noncomputable def vd_753_0_0 : List (List Nat) := [[0]]
noncomputable def vd_753_0 : List (List (List Nat)) := [vd_753_0_0]
noncomputable def vd_753 : List (List (List (List Nat))) := [vd_753_0]
noncomputable def vt_753 : List (List am_I) := []
noncomputable def vc_753 : vm_C := (fun _ => vp_753, fun pc => [], [], 1, vm_inst 8 1 vt_753 vf_753 vd_753)
theorem vx_753_0 : vm_chk bt_220 [] vk_753 17 vc_753 0 1 = true := by decide +kernel
theorem vy_753 : vm_ents 220 17 vc_753 ve_753 = true := by decide +kernel
theorem vw_753 : ∀ q ∈ vk_753, vm_wt 2 q := vm_wts (vm_kc (vm_up v_574 rfl) (vm_kc (vm_up v_750 rfl) vm_kn)) (by decide +kernel)
theorem v_753 : vm_at 3 q_753 := vm_ok (inl := []) (es := ve_753) bq_220 (by decide) vw_753 vy_753 (fun i => vm_hc vx_753_0 rfl (fun h => absurd h (Nat.not_lt_zero _))) _ List.mem_cons_self
noncomputable def vp_754 : List vm_R := [(some (.inl (.ofNat 0, .ofNat 1)), va_h0)]
noncomputable def ve_754 : List vm_E := [([.inl (.ofNat 3, .ofNat 3), .inl am_top], va_h0, 0, [0])]
noncomputable def q_754 : vm_Q := (220, [.inl (.ofNat 3, .ofNat 3), .inl am_top], va_h0, vp_754)
noncomputable def vk_754 : List vm_U := [(q_575, true, []), (q_750, true, [])]
noncomputable def vf_754 : List ((Nat → am_I) → vm_A) := [fun v => (0, [(0, .inl (.ofNat 3, .ofNat 3)), (1, .inl am_top)], [], (80, []))]
noncomputable def vd_754_0_0 : List (List Nat) := [[0]]
noncomputable def vd_754_0 : List (List (List Nat)) := [vd_754_0_0]
noncomputable def vd_754 : List (List (List (List Nat))) := [vd_754_0]
noncomputable def vt_754 : List (List am_I) := []
noncomputable def vc_754 : vm_C := (fun _ => vp_754, fun pc => [], [], 1, vm_inst 8 1 vt_754 vf_754 vd_754)
theorem vx_754_0 : vm_chk bt_220 [] vk_754 17 vc_754 0 1 = true := by decide +kernel
theorem vy_754 : vm_ents 220 17 vc_754 ve_754 = true := by decide +kernel
theorem vw_754 : ∀ q ∈ vk_754, vm_wt 2 q := vm_wts (vm_kc (vm_up v_575 rfl) (vm_kc (vm_up v_750 rfl) vm_kn)) (by decide +kernel)
theorem v_754 : vm_at 3 q_754 := vm_ok (inl := []) (es := ve_754) bq_220 (by decide) vw_754 vy_754 (fun i => vm_hc vx_754_0 rfl (fun h => absurd h (Nat.not_lt_zero _))) _ List.mem_cons_self
noncomputable def vp_755 : List vm_R := [(some (.inl (.ofNat 0, .ofNat 0)), va_h0)]
noncomputable def ve_755 : List vm_E := [([.inl (.ofNat 4, .ofNat 2147483647), .inl am_top], va_h0, 0, [0])]
noncomputable def q_755 : vm_Q := (220, [.inl (.ofNat 4, .ofNat 2147483647), .inl am_top], va_h0, vp_755)
noncomputable def vk_755 : List vm_U := [(q_576, true, [])]
noncomputable def vf_755 : List ((Nat → am_I) → vm_A) := [fun v => (0, [(0, .inl (.ofNat 4, .ofNat 2147483647)), (1, .inl am_top)], [], (80, []))]
noncomputable def vd_755_0_0 : List (List Nat) := [[0]]
noncomputable def vd_755_0 : List (List (List Nat)) := [vd_755_0_0]
noncomputable def vd_755 : List (List (List (List Nat))) := [vd_755_0]
noncomputable def vt_755 : List (List am_I) := []
noncomputable def vc_755 : vm_C := (fun _ => vp_755, fun pc => [], [], 1, vm_inst 8 1 vt_755 vf_755 vd_755)
theorem vx_755_0 : vm_chk bt_220 [] vk_755 10 vc_755 0 1 = true := by decide +kernel
theorem vy_755 : vm_ents 220 10 vc_755 ve_755 = true := by decide +kernel
theorem vw_755 : ∀ q ∈ vk_755, vm_wt 2 q := vm_wts (vm_kc (vm_up v_576 rfl) vm_kn) (by decide +kernel)
theorem v_755 : vm_at 3 q_755 := vm_ok (inl := []) (es := ve_755) bq_220 (by decide) vw_755 vy_755 (fun i => vm_hc vx_755_0 rfl (fun h => absurd h (Nat.not_lt_zero _))) _ List.mem_cons_self
noncomputable def vp_756 : List vm_R := [(some (.inl (.negSucc 13, .ofNat 1)), va_h0)]
noncomputable def ve_756 : List vm_E := [([.inr (.inr (some 70)), .inl am_top, .inl am_top, .inl am_top], va_h0, 0, [0, 1, 2, 3, 4, 46, 47, 48, 90, 91, 92, 134, 135, 136, 178, 179, 180, 181])]
noncomputable def q_756 : vm_Q := (219, [.inr (.inr (some 70)), .inl am_top, .inl am_top, .inl am_top], va_h0, vp_756)
noncomputable def vk_756 : List vm_U := [(q_751, true, []), (q_752, true, []), (q_753, true, []), (q_754, true, []), (q_755, true, []), (q_749, true, [])]
noncomputable def vf_756 : List ((Nat → am_I) → vm_A) := [fun v => (0, [(0, .inr (.inr (some 70))), (1, .inl (v 0)), (2, .inl am_top), (3, .inl (v 1))], [], (80, [])), fun v => (40, [(0, .inr (.inr (some 70))), (1, .inl (v 0)), (2, .inl am_top), (3, .inl am_top), (4, .inl (v 1))], [], (80, []))]
noncomputable def vd_756_0_0 : List (List Nat) := [[181076492288, 185371459584, 189666426880, 180438958080, 47291884961792, 12884967425, 1112396595201, 2211908222977], [3311419850753, 4410931478529, 5510443106305, 6609954734081, 7709466361857, 8808977989633, 9908489617409, 11008001245185], [12107512872961, 13207024500737, 14306536128513, 15406047756289, 16505559384065, 17605071011841, 18704582639617, 19804094267393], [20903605895169, 22003117522945, 23102629150721, 24202140778497, 25301652406273, 26401164034049, 27500675661825, 28600187289601], [29699698917377, 30799210545153, 31898722172929, 32998233800705, 34097745428481, 35197257056257, 36296768684033, 37396280311809], [38495791939585, 39595303567361, 40694815195137, 41794326822913, 42893838450689, 171849023489, 189028892672, 180422180864], [47287589994496, 8590000129, 1108101627905, 2207613255681, 3307124883457, 4406636511233, 5506148139009, 6605659766785], [7705171394561, 8804683022337, 9904194650113, 11003706277889, 12103217905665, 13202729533441, 14302241161217, 15401752788993]]
noncomputable def vd_756_0_1 : List (List Nat) := [[16501264416769, 17600776044545, 18700287672321, 19799799300097, 20899310927873, 21998822555649, 23098334183425, 24197845811201], [25297357438977, 26396869066753, 27496380694529, 28595892322305, 29695403950081, 30794915577857, 31894427205633, 32993938833409], [34093450461185, 35192962088961, 36292473716737, 37391985344513, 38491496972289, 39591008600065, 40690520227841, 41790031855617], [42889543483393, 171832246273, 189012115456, 180405403648, 47283295027200, 4295032833, 1103806660609, 2203318288385], [3302829916161, 4402341543937, 5501853171713, 6601364799489, 7700876427265, 8800388055041, 9899899682817, 10999411310593], [12098922938369, 13198434566145, 14297946193921, 15397457821697, 16496969449473, 17596481077249, 18695992705025, 19795504332801], [20895015960577, 21994527588353, 23094039216129, 24193550843905, 25293062471681, 26392574099457, 27492085727233, 28591597355009], [29691108982785, 30790620610561, 31890132238337, 32989643866113, 34089155493889, 35188667121665, 36288178749441, 37387690377217]]
noncomputable def vd_756_0_2 : List (List Nat) := [[38487202004993, 39586713632769, 40686225260545, 41785736888321, 42885248516097, 171815469057, 188995338240, 180388626432], [47279000059904, 65537, 1099511693313, 2199023321089, 3298534948865, 4398046576641, 5497558204417, 6597069832193], [7696581459969, 8796093087745, 9895604715521, 10995116343297, 12094627971073, 13194139598849, 14293651226625, 15393162854401], [16492674482177, 17592186109953, 18691697737729, 19791209365505, 20890720993281, 21990232621057, 23089744248833, 24189255876609], [25288767504385, 26388279132161, 27487790759937, 28587302387713, 29686814015489, 30786325643265, 31885837271041, 32985348898817], [34084860526593, 35184372154369, 36283883782145, 37383395409921, 38482907037697, 39582418665473, 40681930293249, 41781441921025], [42880953548801, 171798691841, 188978561024, 181126823936, 185421791232, 189716758528]]
noncomputable def vd_756_0 : List (List (List Nat)) := [vd_756_0_0, vd_756_0_1, vd_756_0_2]
noncomputable def vd_756 : List (List (List (List Nat))) := [vd_756_0]
noncomputable def vt_756 : List (List am_I) := [[(.ofNat 4, .ofNat 2147483647), (.ofNat 41, .ofNat 2147483647), (.ofNat 0, .ofNat 40), (.negSucc 2147483647, .negSucc 0)]]
noncomputable def vc_756 : vm_C := (fun _ => vp_756, fun pc => (match Nat.beq pc 0 with
  | true => [(fun _ _ => some (.inl 1), fun _ _ => some [.ofNat 0, .ofNat 1, .ofNat 2, .ofNat 3, .ofNat 4]), (fun _ _ => some (.inl 3), fun _ _ => some [.ofNat 0, .ofNat 41])]
  | false => []), [40], 182, vm_inst 8 41 vt_756 vf_756 vd_756)
theorem vx_756_0 : vm_chk bt_219 [] vk_756 24 vc_756 0 13 = true := by decide +kernel
theorem vx_756_1 : vm_chk bt_219 [] vk_756 24 vc_756 13 12 = true := by decide +kernel
theorem vx_756_2 : vm_chk bt_219 [] vk_756 24 vc_756 25 12 = true := by decide +kernel
theorem vx_756_3 : vm_chk bt_219 [] vk_756 24 vc_756 37 12 = true := by decide +kernel
theorem vx_756_4 : vm_chk bt_219 [] vk_756 24 vc_756 49 12 = true := by decide +kernel
theorem vx_756_5 : vm_chk bt_219 [] vk_756 24 vc_756 61 12 = true := by decide +kernel
theorem vx_756_6 : vm_chk bt_219 [] vk_756 24 vc_756 73 12 = true := by decide +kernel
theorem vx_756_7 : vm_chk bt_219 [] vk_756 24 vc_756 85 12 = true := by decide +kernel
theorem vx_756_8 : vm_chk bt_219 [] vk_756 24 vc_756 97 12 = true := by decide +kernel
theorem vx_756_9 : vm_chk bt_219 [] vk_756 24 vc_756 109 12 = true := by decide +kernel
theorem vx_756_10 : vm_chk bt_219 [] vk_756 24 vc_756 121 12 = true := by decide +kernel
theorem vx_756_11 : vm_chk bt_219 [] vk_756 24 vc_756 133 12 = true := by decide +kernel
theorem vx_756_12 : vm_chk bt_219 [] vk_756 24 vc_756 145 12 = true := by decide +kernel
theorem vx_756_13 : vm_chk bt_219 [] vk_756 24 vc_756 157 12 = true := by decide +kernel
theorem vx_756_14 : vm_chk bt_219 [] vk_756 24 vc_756 169 13 = true := by decide +kernel
theorem vy_756 : vm_ents 219 24 vc_756 ve_756 = true := by decide +kernel
theorem vw_756 : ∀ q ∈ vk_756, vm_wt 3 q := vm_wts (vm_kc (vm_up v_751 rfl) (vm_kc (vm_up v_752 rfl) (vm_kc (vm_up v_753 rfl) (vm_kc (vm_up v_754 rfl) (vm_kc (vm_up v_755 rfl) (vm_kc (vm_up v_749 rfl) vm_kn)))))) (by decide +kernel)
theorem v_756 : vm_at 4 q_756 := vm_ok (inl := []) (es := ve_756) bq_219 (by decide) vw_756 vy_756 (fun i => vm_hc vx_756_14 rfl (vm_hc vx_756_13 rfl (vm_hc vx_756_12 rfl (vm_hc vx_756_11 rfl (vm_hc vx_756_10 rfl (vm_hc vx_756_9 rfl (vm_hc vx_756_8 rfl (vm_hc vx_756_7 rfl (vm_hc vx_756_6 rfl (vm_hc vx_756_5 rfl (vm_hc vx_756_4 rfl (vm_hc vx_756_3 rfl (vm_hc vx_756_2 rfl (vm_hc vx_756_1 rfl (vm_hc vx_756_0 rfl (fun h => absurd h (Nat.not_lt_zero _))))))))))))))))) _ List.mem_cons_self
noncomputable def vp_757 : List vm_R := [(some (.inl (.ofNat 0, .ofNat 0)), va_h0)]
noncomputable def ve_757 : List vm_E := [([.inl (.negSucc 2147483647, .negSucc 0), .inl (.ofNat 0, .ofNat 0)], va_h0, 0, [0])]
noncomputable def q_757 : vm_Q := (220, [.inl (.negSucc 2147483647, .negSucc 0), .inl (.ofNat 0, .ofNat 0)], va_h0, vp_757)
noncomputable def vk_757 : List vm_U := [(q_571, true, [])]
noncomputable def vf_757 : List ((Nat → am_I) → vm_A) := [fun v => (0, [(0, .inl (.negSucc 2147483647, .negSucc 0)), (1, .inl (.ofNat 0, .ofNat 0))], [], (80, []))]
noncomputable def vd_757_0_0 : List (List Nat) := [[0]]
noncomputable def vd_757_0 : List (List (List Nat)) := [vd_757_0_0]
noncomputable def vd_757 : List (List (List (List Nat))) := [vd_757_0]
noncomputable def vt_757 : List (List am_I) := []
noncomputable def vc_757 : vm_C := (fun _ => vp_757, fun pc => [], [], 1, vm_inst 8 1 vt_757 vf_757 vd_757)
theorem vx_757_0 : vm_chk bt_220 [] vk_757 10 vc_757 0 1 = true := by decide +kernel
theorem vy_757 : vm_ents 220 10 vc_757 ve_757 = true := by decide +kernel
theorem vw_757 : ∀ q ∈ vk_757, vm_wt 2 q := vm_wts (vm_kc (vm_up v_571 rfl) vm_kn) (by decide +kernel)
theorem v_757 : vm_at 3 q_757 := vm_ok (inl := []) (es := ve_757) bq_220 (by decide) vw_757 vy_757 (fun i => vm_hc vx_757_0 rfl (fun h => absurd h (Nat.not_lt_zero _))) _ List.mem_cons_self
noncomputable def vp_758 : List vm_R := [(some (.inl (.ofNat 1, .ofNat 1)), va_h0)]
noncomputable def ve_758 : List vm_E := [([.inr (.inl (.ofNat 0, .ofNat 0)), .inr (.inl (.ofNat 0, .ofNat 0)), .inr (.inl (.ofNat 2, .ofNat 2))], va_h0, 0, [0])]
noncomputable def q_758 : vm_Q := (149, [.inr (.inl (.ofNat 0, .ofNat 0)), .inr (.inl (.ofNat 0, .ofNat 0)), .inr (.inl (.ofNat 2, .ofNat 2))], va_h0, vp_758)
noncomputable def vk_758 : List vm_U := []
noncomputable def vf_758 : List ((Nat → am_I) → vm_A) := [fun v => (0, [(0, .inr (.inl (.ofNat 0, .ofNat 0))), (2, .inr (.inl (.ofNat 0, .ofNat 0))), (4, .inr (.inl (.ofNat 2, .ofNat 2)))], [], (80, []))]
noncomputable def vd_758_0_0 : List (List Nat) := [[0]]
noncomputable def vd_758_0 : List (List (List Nat)) := [vd_758_0_0]
noncomputable def vd_758 : List (List (List (List Nat))) := [vd_758_0]
noncomputable def vt_758 : List (List am_I) := []
noncomputable def vc_758 : vm_C := (fun _ => vp_758, fun pc => [], [], 1, vm_inst 8 1 vt_758 vf_758 vd_758)
theorem vx_758_0 : vm_chk bt_149 [] vk_758 13 vc_758 0 1 = true := by decide +kernel
theorem vy_758 : vm_ents 149 13 vc_758 ve_758 = true := by decide +kernel
theorem vw_758 : ∀ q ∈ vk_758, vm_wt 1 q := vm_wts vm_kn (by decide +kernel)
theorem v_758 : vm_at 2 q_758 := vm_ok (inl := []) (es := ve_758) bq_149 (by decide) vw_758 vy_758 (fun i => vm_hc vx_758_0 rfl (fun h => absurd h (Nat.not_lt_zero _))) _ List.mem_cons_self
noncomputable def vp_759 : List vm_R := [(some (.inl (.ofNat 1, .ofNat 1)), va_h0)]
noncomputable def ve_759 : List vm_E := [([.inl (.ofNat 0, .ofNat 0), .inl (.ofNat 0, .ofNat 0)], va_h0, 0, [0])]
noncomputable def q_759 : vm_Q := (220, [.inl (.ofNat 0, .ofNat 0), .inl (.ofNat 0, .ofNat 0)], va_h0, vp_759)
noncomputable def vk_759 : List vm_U := [(q_572, true, []), (q_758, true, [])]
noncomputable def vf_759 : List ((Nat → am_I) → vm_A) := [fun v => (0, [(0, .inl (.ofNat 0, .ofNat 0)), (1, .inl (.ofNat 0, .ofNat 0))], [], (80, []))]
noncomputable def vd_759_0_0 : List (List Nat) := [[0]]
noncomputable def vd_759_0 : List (List (List Nat)) := [vd_759_0_0]
noncomputable def vd_759 : List (List (List (List Nat))) := [vd_759_0]
noncomputable def vt_759 : List (List am_I) := []
noncomputable def vc_759 : vm_C := (fun _ => vp_759, fun pc => [], [], 1, vm_inst 8 1 vt_759 vf_759 vd_759)
theorem vx_759_0 : vm_chk bt_220 [] vk_759 17 vc_759 0 1 = true := by decide +kernel
theorem vy_759 : vm_ents 220 17 vc_759 ve_759 = true := by decide +kernel
theorem vw_759 : ∀ q ∈ vk_759, vm_wt 2 q := vm_wts (vm_kc (vm_up v_572 rfl) (vm_kc (vm_up v_758 rfl) vm_kn)) (by decide +kernel)
theorem v_759 : vm_at 3 q_759 := vm_ok (inl := []) (es := ve_759) bq_220 (by decide) vw_759 vy_759 (fun i => vm_hc vx_759_0 rfl (fun h => absurd h (Nat.not_lt_zero _))) _ List.mem_cons_self
noncomputable def vp_760 : List vm_R := [(some (.inl (.ofNat 0, .ofNat 0)), va_h0)]
noncomputable def ve_760 : List vm_E := [([.inr (.inl (.negSucc 2147483647, .negSucc 0)), .inr (.inl (.ofNat 0, .ofNat 0)), .inr (.inl (.negSucc 0, .ofNat 39))], va_h0, 0, [0])]
noncomputable def q_760 : vm_Q := (149, [.inr (.inl (.negSucc 2147483647, .negSucc 0)), .inr (.inl (.ofNat 0, .ofNat 0)), .inr (.inl (.negSucc 0, .ofNat 39))], va_h0, vp_760)
noncomputable def vk_760 : List vm_U := []
noncomputable def vf_760 : List ((Nat → am_I) → vm_A) := [fun v => (0, [(0, .inr (.inl (.negSucc 2147483647, .negSucc 0))), (2, .inr (.inl (.ofNat 0, .ofNat 0))), (4, .inr (.inl (.negSucc 0, .ofNat 39)))], [], (80, []))]
noncomputable def vd_760_0_0 : List (List Nat) := [[0]]
noncomputable def vd_760_0 : List (List (List Nat)) := [vd_760_0_0]
noncomputable def vd_760 : List (List (List (List Nat))) := [vd_760_0]
noncomputable def vt_760 : List (List am_I) := []
noncomputable def vc_760 : vm_C := (fun _ => vp_760, fun pc => [], [], 1, vm_inst 8 1 vt_760 vf_760 vd_760)
theorem vx_760_0 : vm_chk bt_149 [] vk_760 8 vc_760 0 1 = true := by decide +kernel
theorem vy_760 : vm_ents 149 8 vc_760 ve_760 = true := by decide +kernel
theorem vw_760 : ∀ q ∈ vk_760, vm_wt 1 q := vm_wts vm_kn (by decide +kernel)
theorem v_760 : vm_at 2 q_760 := vm_ok (inl := []) (es := ve_760) bq_149 (by decide) vw_760 vy_760 (fun i => vm_hc vx_760_0 rfl (fun h => absurd h (Nat.not_lt_zero _))) _ List.mem_cons_self
noncomputable def vp_761 : List vm_R := [(some (.inl (.ofNat 0, .ofNat 1)), va_h0)]
noncomputable def ve_761 : List vm_E := [([.inr (.inl (.ofNat 0, .ofNat 0)), .inr (.inl (.ofNat 0, .ofNat 0)), .inr (.inl (.negSucc 0, .ofNat 39))], va_h0, 0, [0])]
noncomputable def q_761 : vm_Q := (149, [.inr (.inl (.ofNat 0, .ofNat 0)), .inr (.inl (.ofNat 0, .ofNat 0)), .inr (.inl (.negSucc 0, .ofNat 39))], va_h0, vp_761)
noncomputable def vk_761 : List vm_U := []
noncomputable def vf_761 : List ((Nat → am_I) → vm_A) := [fun v => (0, [(0, .inr (.inl (.ofNat 0, .ofNat 0))), (2, .inr (.inl (.ofNat 0, .ofNat 0))), (4, .inr (.inl (.negSucc 0, .ofNat 39)))], [], (80, []))]
noncomputable def vd_761_0_0 : List (List Nat) := [[0]]
noncomputable def vd_761_0 : List (List (List Nat)) := [vd_761_0_0]
noncomputable def vd_761 : List (List (List (List Nat))) := [vd_761_0]
noncomputable def vt_761 : List (List am_I) := []
noncomputable def vc_761 : vm_C := (fun _ => vp_761, fun pc => [], [], 1, vm_inst 8 1 vt_761 vf_761 vd_761)
theorem vx_761_0 : vm_chk bt_149 [] vk_761 13 vc_761 0 1 = true := by decide +kernel
theorem vy_761 : vm_ents 149 13 vc_761 ve_761 = true := by decide +kernel
theorem vw_761 : ∀ q ∈ vk_761, vm_wt 1 q := vm_wts vm_kn (by decide +kernel)
theorem v_761 : vm_at 2 q_761 := vm_ok (inl := []) (es := ve_761) bq_149 (by decide) vw_761 vy_761 (fun i => vm_hc vx_761_0 rfl (fun h => absurd h (Nat.not_lt_zero _))) _ List.mem_cons_self
noncomputable def vp_762 : List vm_R := [(some (.inl (.ofNat 0, .ofNat 1)), va_h0)]
noncomputable def ve_762 : List vm_E := [([.inr (.inl (.ofNat 1, .ofNat 1)), .inr (.inl (.ofNat 0, .ofNat 0)), .inr (.inl (.negSucc 0, .ofNat 39))], va_h0, 0, [0])]
noncomputable def q_762 : vm_Q := (149, [.inr (.inl (.ofNat 1, .ofNat 1)), .inr (.inl (.ofNat 0, .ofNat 0)), .inr (.inl (.negSucc 0, .ofNat 39))], va_h0, vp_762)
noncomputable def vk_762 : List vm_U := []
noncomputable def vf_762 : List ((Nat → am_I) → vm_A) := [fun v => (0, [(0, .inr (.inl (.ofNat 1, .ofNat 1))), (2, .inr (.inl (.ofNat 0, .ofNat 0))), (4, .inr (.inl (.negSucc 0, .ofNat 39)))], [], (80, []))]
noncomputable def vd_762_0_0 : List (List Nat) := [[0]]
noncomputable def vd_762_0 : List (List (List Nat)) := [vd_762_0_0]
noncomputable def vd_762 : List (List (List (List Nat))) := [vd_762_0]
noncomputable def vt_762 : List (List am_I) := []
noncomputable def vc_762 : vm_C := (fun _ => vp_762, fun pc => [], [], 1, vm_inst 8 1 vt_762 vf_762 vd_762)
theorem vx_762_0 : vm_chk bt_149 [] vk_762 13 vc_762 0 1 = true := by decide +kernel
theorem vy_762 : vm_ents 149 13 vc_762 ve_762 = true := by decide +kernel
theorem vw_762 : ∀ q ∈ vk_762, vm_wt 1 q := vm_wts vm_kn (by decide +kernel)
theorem v_762 : vm_at 2 q_762 := vm_ok (inl := []) (es := ve_762) bq_149 (by decide) vw_762 vy_762 (fun i => vm_hc vx_762_0 rfl (fun h => absurd h (Nat.not_lt_zero _))) _ List.mem_cons_self
noncomputable def vp_763 : List vm_R := [(some (.inl (.ofNat 0, .ofNat 1)), va_h0)]
noncomputable def ve_763 : List vm_E := [([.inr (.inl (.ofNat 2, .ofNat 2)), .inr (.inl (.ofNat 0, .ofNat 0)), .inr (.inl (.negSucc 0, .ofNat 39))], va_h0, 0, [0])]
noncomputable def q_763 : vm_Q := (149, [.inr (.inl (.ofNat 2, .ofNat 2)), .inr (.inl (.ofNat 0, .ofNat 0)), .inr (.inl (.negSucc 0, .ofNat 39))], va_h0, vp_763)
noncomputable def vk_763 : List vm_U := []
noncomputable def vf_763 : List ((Nat → am_I) → vm_A) := [fun v => (0, [(0, .inr (.inl (.ofNat 2, .ofNat 2))), (2, .inr (.inl (.ofNat 0, .ofNat 0))), (4, .inr (.inl (.negSucc 0, .ofNat 39)))], [], (80, []))]
noncomputable def vd_763_0_0 : List (List Nat) := [[0]]
noncomputable def vd_763_0 : List (List (List Nat)) := [vd_763_0_0]
noncomputable def vd_763 : List (List (List (List Nat))) := [vd_763_0]
noncomputable def vt_763 : List (List am_I) := []
noncomputable def vc_763 : vm_C := (fun _ => vp_763, fun pc => [], [], 1, vm_inst 8 1 vt_763 vf_763 vd_763)
theorem vx_763_0 : vm_chk bt_149 [] vk_763 13 vc_763 0 1 = true := by decide +kernel
theorem vy_763 : vm_ents 149 13 vc_763 ve_763 = true := by decide +kernel
theorem vw_763 : ∀ q ∈ vk_763, vm_wt 1 q := vm_wts vm_kn (by decide +kernel)
theorem v_763 : vm_at 2 q_763 := vm_ok (inl := []) (es := ve_763) bq_149 (by decide) vw_763 vy_763 (fun i => vm_hc vx_763_0 rfl (fun h => absurd h (Nat.not_lt_zero _))) _ List.mem_cons_self
noncomputable def vp_764 : List vm_R := [(some (.inl (.ofNat 0, .ofNat 1)), va_h0)]
noncomputable def ve_764 : List vm_E := [([.inr (.inl (.ofNat 3, .ofNat 3)), .inr (.inl (.ofNat 0, .ofNat 0)), .inr (.inl (.negSucc 0, .ofNat 39))], va_h0, 0, [0])]
noncomputable def q_764 : vm_Q := (149, [.inr (.inl (.ofNat 3, .ofNat 3)), .inr (.inl (.ofNat 0, .ofNat 0)), .inr (.inl (.negSucc 0, .ofNat 39))], va_h0, vp_764)
noncomputable def vk_764 : List vm_U := []
noncomputable def vf_764 : List ((Nat → am_I) → vm_A) := [fun v => (0, [(0, .inr (.inl (.ofNat 3, .ofNat 3))), (2, .inr (.inl (.ofNat 0, .ofNat 0))), (4, .inr (.inl (.negSucc 0, .ofNat 39)))], [], (80, []))]
noncomputable def vd_764_0_0 : List (List Nat) := [[0]]
noncomputable def vd_764_0 : List (List (List Nat)) := [vd_764_0_0]
noncomputable def vd_764 : List (List (List (List Nat))) := [vd_764_0]
noncomputable def vt_764 : List (List am_I) := []
noncomputable def vc_764 : vm_C := (fun _ => vp_764, fun pc => [], [], 1, vm_inst 8 1 vt_764 vf_764 vd_764)
theorem vx_764_0 : vm_chk bt_149 [] vk_764 13 vc_764 0 1 = true := by decide +kernel
theorem vy_764 : vm_ents 149 13 vc_764 ve_764 = true := by decide +kernel
theorem vw_764 : ∀ q ∈ vk_764, vm_wt 1 q := vm_wts vm_kn (by decide +kernel)
theorem v_764 : vm_at 2 q_764 := vm_ok (inl := []) (es := ve_764) bq_149 (by decide) vw_764 vy_764 (fun i => vm_hc vx_764_0 rfl (fun h => absurd h (Nat.not_lt_zero _))) _ List.mem_cons_self
noncomputable def vp_765 : List vm_R := [(some (.inl (.ofNat 0, .ofNat 1)), va_h0)]
noncomputable def ve_765 : List vm_E := [([.inr (.inl (.ofNat 4, .ofNat 4)), .inr (.inl (.ofNat 0, .ofNat 0)), .inr (.inl (.negSucc 0, .ofNat 39))], va_h0, 0, [0])]
noncomputable def q_765 : vm_Q := (149, [.inr (.inl (.ofNat 4, .ofNat 4)), .inr (.inl (.ofNat 0, .ofNat 0)), .inr (.inl (.negSucc 0, .ofNat 39))], va_h0, vp_765)
noncomputable def vk_765 : List vm_U := []
noncomputable def vf_765 : List ((Nat → am_I) → vm_A) := [fun v => (0, [(0, .inr (.inl (.ofNat 4, .ofNat 4))), (2, .inr (.inl (.ofNat 0, .ofNat 0))), (4, .inr (.inl (.negSucc 0, .ofNat 39)))], [], (80, []))]
noncomputable def vd_765_0_0 : List (List Nat) := [[0]]
noncomputable def vd_765_0 : List (List (List Nat)) := [vd_765_0_0]
noncomputable def vd_765 : List (List (List (List Nat))) := [vd_765_0]
noncomputable def vt_765 : List (List am_I) := []
noncomputable def vc_765 : vm_C := (fun _ => vp_765, fun pc => [], [], 1, vm_inst 8 1 vt_765 vf_765 vd_765)
theorem vx_765_0 : vm_chk bt_149 [] vk_765 13 vc_765 0 1 = true := by decide +kernel
theorem vy_765 : vm_ents 149 13 vc_765 ve_765 = true := by decide +kernel
theorem vw_765 : ∀ q ∈ vk_765, vm_wt 1 q := vm_wts vm_kn (by decide +kernel)
theorem v_765 : vm_at 2 q_765 := vm_ok (inl := []) (es := ve_765) bq_149 (by decide) vw_765 vy_765 (fun i => vm_hc vx_765_0 rfl (fun h => absurd h (Nat.not_lt_zero _))) _ List.mem_cons_self
noncomputable def vp_766 : List vm_R := [(some (.inl (.ofNat 0, .ofNat 1)), va_h0)]
noncomputable def ve_766 : List vm_E := [([.inr (.inl (.ofNat 5, .ofNat 5)), .inr (.inl (.ofNat 0, .ofNat 0)), .inr (.inl (.negSucc 0, .ofNat 39))], va_h0, 0, [0])]
noncomputable def q_766 : vm_Q := (149, [.inr (.inl (.ofNat 5, .ofNat 5)), .inr (.inl (.ofNat 0, .ofNat 0)), .inr (.inl (.negSucc 0, .ofNat 39))], va_h0, vp_766)
noncomputable def vk_766 : List vm_U := []
noncomputable def vf_766 : List ((Nat → am_I) → vm_A) := [fun v => (0, [(0, .inr (.inl (.ofNat 5, .ofNat 5))), (2, .inr (.inl (.ofNat 0, .ofNat 0))), (4, .inr (.inl (.negSucc 0, .ofNat 39)))], [], (80, []))]
noncomputable def vd_766_0_0 : List (List Nat) := [[0]]
noncomputable def vd_766_0 : List (List (List Nat)) := [vd_766_0_0]
noncomputable def vd_766 : List (List (List (List Nat))) := [vd_766_0]
noncomputable def vt_766 : List (List am_I) := []
noncomputable def vc_766 : vm_C := (fun _ => vp_766, fun pc => [], [], 1, vm_inst 8 1 vt_766 vf_766 vd_766)
theorem vx_766_0 : vm_chk bt_149 [] vk_766 13 vc_766 0 1 = true := by decide +kernel
theorem vy_766 : vm_ents 149 13 vc_766 ve_766 = true := by decide +kernel
theorem vw_766 : ∀ q ∈ vk_766, vm_wt 1 q := vm_wts vm_kn (by decide +kernel)
theorem v_766 : vm_at 2 q_766 := vm_ok (inl := []) (es := ve_766) bq_149 (by decide) vw_766 vy_766 (fun i => vm_hc vx_766_0 rfl (fun h => absurd h (Nat.not_lt_zero _))) _ List.mem_cons_self
noncomputable def vp_767 : List vm_R := [(some (.inl (.ofNat 0, .ofNat 1)), va_h0)]
noncomputable def ve_767 : List vm_E := [([.inr (.inl (.ofNat 6, .ofNat 6)), .inr (.inl (.ofNat 0, .ofNat 0)), .inr (.inl (.negSucc 0, .ofNat 39))], va_h0, 0, [0])]
noncomputable def q_767 : vm_Q := (149, [.inr (.inl (.ofNat 6, .ofNat 6)), .inr (.inl (.ofNat 0, .ofNat 0)), .inr (.inl (.negSucc 0, .ofNat 39))], va_h0, vp_767)
noncomputable def vk_767 : List vm_U := []
noncomputable def vf_767 : List ((Nat → am_I) → vm_A) := [fun v => (0, [(0, .inr (.inl (.ofNat 6, .ofNat 6))), (2, .inr (.inl (.ofNat 0, .ofNat 0))), (4, .inr (.inl (.negSucc 0, .ofNat 39)))], [], (80, []))]
noncomputable def vd_767_0_0 : List (List Nat) := [[0]]
noncomputable def vd_767_0 : List (List (List Nat)) := [vd_767_0_0]
noncomputable def vd_767 : List (List (List (List Nat))) := [vd_767_0]
noncomputable def vt_767 : List (List am_I) := []
noncomputable def vc_767 : vm_C := (fun _ => vp_767, fun pc => [], [], 1, vm_inst 8 1 vt_767 vf_767 vd_767)
theorem vx_767_0 : vm_chk bt_149 [] vk_767 13 vc_767 0 1 = true := by decide +kernel
theorem vy_767 : vm_ents 149 13 vc_767 ve_767 = true := by decide +kernel
theorem vw_767 : ∀ q ∈ vk_767, vm_wt 1 q := vm_wts vm_kn (by decide +kernel)
theorem v_767 : vm_at 2 q_767 := vm_ok (inl := []) (es := ve_767) bq_149 (by decide) vw_767 vy_767 (fun i => vm_hc vx_767_0 rfl (fun h => absurd h (Nat.not_lt_zero _))) _ List.mem_cons_self
noncomputable def vp_768 : List vm_R := [(some (.inl (.ofNat 0, .ofNat 1)), va_h0)]
noncomputable def ve_768 : List vm_E := [([.inr (.inl (.ofNat 7, .ofNat 7)), .inr (.inl (.ofNat 0, .ofNat 0)), .inr (.inl (.negSucc 0, .ofNat 39))], va_h0, 0, [0])]
noncomputable def q_768 : vm_Q := (149, [.inr (.inl (.ofNat 7, .ofNat 7)), .inr (.inl (.ofNat 0, .ofNat 0)), .inr (.inl (.negSucc 0, .ofNat 39))], va_h0, vp_768)
noncomputable def vk_768 : List vm_U := []
noncomputable def vf_768 : List ((Nat → am_I) → vm_A) := [fun v => (0, [(0, .inr (.inl (.ofNat 7, .ofNat 7))), (2, .inr (.inl (.ofNat 0, .ofNat 0))), (4, .inr (.inl (.negSucc 0, .ofNat 39)))], [], (80, []))]
noncomputable def vd_768_0_0 : List (List Nat) := [[0]]
noncomputable def vd_768_0 : List (List (List Nat)) := [vd_768_0_0]
noncomputable def vd_768 : List (List (List (List Nat))) := [vd_768_0]
noncomputable def vt_768 : List (List am_I) := []
noncomputable def vc_768 : vm_C := (fun _ => vp_768, fun pc => [], [], 1, vm_inst 8 1 vt_768 vf_768 vd_768)
theorem vx_768_0 : vm_chk bt_149 [] vk_768 13 vc_768 0 1 = true := by decide +kernel
theorem vy_768 : vm_ents 149 13 vc_768 ve_768 = true := by decide +kernel
theorem vw_768 : ∀ q ∈ vk_768, vm_wt 1 q := vm_wts vm_kn (by decide +kernel)
theorem v_768 : vm_at 2 q_768 := vm_ok (inl := []) (es := ve_768) bq_149 (by decide) vw_768 vy_768 (fun i => vm_hc vx_768_0 rfl (fun h => absurd h (Nat.not_lt_zero _))) _ List.mem_cons_self
noncomputable def vp_769 : List vm_R := [(some (.inl (.ofNat 0, .ofNat 1)), va_h0)]
noncomputable def ve_769 : List vm_E := [([.inr (.inl (.ofNat 8, .ofNat 8)), .inr (.inl (.ofNat 0, .ofNat 0)), .inr (.inl (.negSucc 0, .ofNat 39))], va_h0, 0, [0])]
noncomputable def q_769 : vm_Q := (149, [.inr (.inl (.ofNat 8, .ofNat 8)), .inr (.inl (.ofNat 0, .ofNat 0)), .inr (.inl (.negSucc 0, .ofNat 39))], va_h0, vp_769)
noncomputable def vk_769 : List vm_U := []
noncomputable def vf_769 : List ((Nat → am_I) → vm_A) := [fun v => (0, [(0, .inr (.inl (.ofNat 8, .ofNat 8))), (2, .inr (.inl (.ofNat 0, .ofNat 0))), (4, .inr (.inl (.negSucc 0, .ofNat 39)))], [], (80, []))]
noncomputable def vd_769_0_0 : List (List Nat) := [[0]]
noncomputable def vd_769_0 : List (List (List Nat)) := [vd_769_0_0]
noncomputable def vd_769 : List (List (List (List Nat))) := [vd_769_0]
noncomputable def vt_769 : List (List am_I) := []
noncomputable def vc_769 : vm_C := (fun _ => vp_769, fun pc => [], [], 1, vm_inst 8 1 vt_769 vf_769 vd_769)
theorem vx_769_0 : vm_chk bt_149 [] vk_769 13 vc_769 0 1 = true := by decide +kernel
theorem vy_769 : vm_ents 149 13 vc_769 ve_769 = true := by decide +kernel
theorem vw_769 : ∀ q ∈ vk_769, vm_wt 1 q := vm_wts vm_kn (by decide +kernel)
theorem v_769 : vm_at 2 q_769 := vm_ok (inl := []) (es := ve_769) bq_149 (by decide) vw_769 vy_769 (fun i => vm_hc vx_769_0 rfl (fun h => absurd h (Nat.not_lt_zero _))) _ List.mem_cons_self
noncomputable def vp_770 : List vm_R := [(some (.inl (.ofNat 0, .ofNat 1)), va_h0)]
noncomputable def ve_770 : List vm_E := [([.inr (.inl (.ofNat 9, .ofNat 9)), .inr (.inl (.ofNat 0, .ofNat 0)), .inr (.inl (.negSucc 0, .ofNat 39))], va_h0, 0, [0])]
noncomputable def q_770 : vm_Q := (149, [.inr (.inl (.ofNat 9, .ofNat 9)), .inr (.inl (.ofNat 0, .ofNat 0)), .inr (.inl (.negSucc 0, .ofNat 39))], va_h0, vp_770)
noncomputable def vk_770 : List vm_U := []
noncomputable def vf_770 : List ((Nat → am_I) → vm_A) := [fun v => (0, [(0, .inr (.inl (.ofNat 9, .ofNat 9))), (2, .inr (.inl (.ofNat 0, .ofNat 0))), (4, .inr (.inl (.negSucc 0, .ofNat 39)))], [], (80, []))]
noncomputable def vd_770_0_0 : List (List Nat) := [[0]]
noncomputable def vd_770_0 : List (List (List Nat)) := [vd_770_0_0]
noncomputable def vd_770 : List (List (List (List Nat))) := [vd_770_0]
noncomputable def vt_770 : List (List am_I) := []
noncomputable def vc_770 : vm_C := (fun _ => vp_770, fun pc => [], [], 1, vm_inst 8 1 vt_770 vf_770 vd_770)
theorem vx_770_0 : vm_chk bt_149 [] vk_770 13 vc_770 0 1 = true := by decide +kernel
theorem vy_770 : vm_ents 149 13 vc_770 ve_770 = true := by decide +kernel
theorem vw_770 : ∀ q ∈ vk_770, vm_wt 1 q := vm_wts vm_kn (by decide +kernel)
theorem v_770 : vm_at 2 q_770 := vm_ok (inl := []) (es := ve_770) bq_149 (by decide) vw_770 vy_770 (fun i => vm_hc vx_770_0 rfl (fun h => absurd h (Nat.not_lt_zero _))) _ List.mem_cons_self
noncomputable def vp_771 : List vm_R := [(some (.inl (.ofNat 0, .ofNat 1)), va_h0)]
noncomputable def ve_771 : List vm_E := [([.inr (.inl (.ofNat 10, .ofNat 10)), .inr (.inl (.ofNat 0, .ofNat 0)), .inr (.inl (.negSucc 0, .ofNat 39))], va_h0, 0, [0])]
noncomputable def q_771 : vm_Q := (149, [.inr (.inl (.ofNat 10, .ofNat 10)), .inr (.inl (.ofNat 0, .ofNat 0)), .inr (.inl (.negSucc 0, .ofNat 39))], va_h0, vp_771)
noncomputable def vk_771 : List vm_U := []
noncomputable def vf_771 : List ((Nat → am_I) → vm_A) := [fun v => (0, [(0, .inr (.inl (.ofNat 10, .ofNat 10))), (2, .inr (.inl (.ofNat 0, .ofNat 0))), (4, .inr (.inl (.negSucc 0, .ofNat 39)))], [], (80, []))]
noncomputable def vd_771_0_0 : List (List Nat) := [[0]]
noncomputable def vd_771_0 : List (List (List Nat)) := [vd_771_0_0]
noncomputable def vd_771 : List (List (List (List Nat))) := [vd_771_0]
noncomputable def vt_771 : List (List am_I) := []
noncomputable def vc_771 : vm_C := (fun _ => vp_771, fun pc => [], [], 1, vm_inst 8 1 vt_771 vf_771 vd_771)
theorem vx_771_0 : vm_chk bt_149 [] vk_771 13 vc_771 0 1 = true := by decide +kernel
theorem vy_771 : vm_ents 149 13 vc_771 ve_771 = true := by decide +kernel
theorem vw_771 : ∀ q ∈ vk_771, vm_wt 1 q := vm_wts vm_kn (by decide +kernel)
theorem v_771 : vm_at 2 q_771 := vm_ok (inl := []) (es := ve_771) bq_149 (by decide) vw_771 vy_771 (fun i => vm_hc vx_771_0 rfl (fun h => absurd h (Nat.not_lt_zero _))) _ List.mem_cons_self
noncomputable def vp_772 : List vm_R := [(some (.inl (.ofNat 0, .ofNat 1)), va_h0)]
noncomputable def ve_772 : List vm_E := [([.inr (.inl (.ofNat 11, .ofNat 11)), .inr (.inl (.ofNat 0, .ofNat 0)), .inr (.inl (.negSucc 0, .ofNat 39))], va_h0, 0, [0])]
noncomputable def q_772 : vm_Q := (149, [.inr (.inl (.ofNat 11, .ofNat 11)), .inr (.inl (.ofNat 0, .ofNat 0)), .inr (.inl (.negSucc 0, .ofNat 39))], va_h0, vp_772)
noncomputable def vk_772 : List vm_U := []
noncomputable def vf_772 : List ((Nat → am_I) → vm_A) := [fun v => (0, [(0, .inr (.inl (.ofNat 11, .ofNat 11))), (2, .inr (.inl (.ofNat 0, .ofNat 0))), (4, .inr (.inl (.negSucc 0, .ofNat 39)))], [], (80, []))]
noncomputable def vd_772_0_0 : List (List Nat) := [[0]]
noncomputable def vd_772_0 : List (List (List Nat)) := [vd_772_0_0]
noncomputable def vd_772 : List (List (List (List Nat))) := [vd_772_0]
noncomputable def vt_772 : List (List am_I) := []
noncomputable def vc_772 : vm_C := (fun _ => vp_772, fun pc => [], [], 1, vm_inst 8 1 vt_772 vf_772 vd_772)
theorem vx_772_0 : vm_chk bt_149 [] vk_772 13 vc_772 0 1 = true := by decide +kernel
theorem vy_772 : vm_ents 149 13 vc_772 ve_772 = true := by decide +kernel
theorem vw_772 : ∀ q ∈ vk_772, vm_wt 1 q := vm_wts vm_kn (by decide +kernel)
theorem v_772 : vm_at 2 q_772 := vm_ok (inl := []) (es := ve_772) bq_149 (by decide) vw_772 vy_772 (fun i => vm_hc vx_772_0 rfl (fun h => absurd h (Nat.not_lt_zero _))) _ List.mem_cons_self
noncomputable def vp_773 : List vm_R := [(some (.inl (.ofNat 0, .ofNat 1)), va_h0)]
noncomputable def ve_773 : List vm_E := [([.inr (.inl (.ofNat 12, .ofNat 12)), .inr (.inl (.ofNat 0, .ofNat 0)), .inr (.inl (.negSucc 0, .ofNat 39))], va_h0, 0, [0])]
noncomputable def q_773 : vm_Q := (149, [.inr (.inl (.ofNat 12, .ofNat 12)), .inr (.inl (.ofNat 0, .ofNat 0)), .inr (.inl (.negSucc 0, .ofNat 39))], va_h0, vp_773)
noncomputable def vk_773 : List vm_U := []
noncomputable def vf_773 : List ((Nat → am_I) → vm_A) := [fun v => (0, [(0, .inr (.inl (.ofNat 12, .ofNat 12))), (2, .inr (.inl (.ofNat 0, .ofNat 0))), (4, .inr (.inl (.negSucc 0, .ofNat 39)))], [], (80, []))]
noncomputable def vd_773_0_0 : List (List Nat) := [[0]]
noncomputable def vd_773_0 : List (List (List Nat)) := [vd_773_0_0]
noncomputable def vd_773 : List (List (List (List Nat))) := [vd_773_0]
noncomputable def vt_773 : List (List am_I) := []
noncomputable def vc_773 : vm_C := (fun _ => vp_773, fun pc => [], [], 1, vm_inst 8 1 vt_773 vf_773 vd_773)
theorem vx_773_0 : vm_chk bt_149 [] vk_773 13 vc_773 0 1 = true := by decide +kernel
theorem vy_773 : vm_ents 149 13 vc_773 ve_773 = true := by decide +kernel
theorem vw_773 : ∀ q ∈ vk_773, vm_wt 1 q := vm_wts vm_kn (by decide +kernel)
theorem v_773 : vm_at 2 q_773 := vm_ok (inl := []) (es := ve_773) bq_149 (by decide) vw_773 vy_773 (fun i => vm_hc vx_773_0 rfl (fun h => absurd h (Nat.not_lt_zero _))) _ List.mem_cons_self
noncomputable def vp_774 : List vm_R := [(some (.inl (.ofNat 0, .ofNat 1)), va_h0)]
noncomputable def ve_774 : List vm_E := [([.inr (.inl (.ofNat 13, .ofNat 13)), .inr (.inl (.ofNat 0, .ofNat 0)), .inr (.inl (.negSucc 0, .ofNat 39))], va_h0, 0, [0])]
noncomputable def q_774 : vm_Q := (149, [.inr (.inl (.ofNat 13, .ofNat 13)), .inr (.inl (.ofNat 0, .ofNat 0)), .inr (.inl (.negSucc 0, .ofNat 39))], va_h0, vp_774)
noncomputable def vk_774 : List vm_U := []
noncomputable def vf_774 : List ((Nat → am_I) → vm_A) := [fun v => (0, [(0, .inr (.inl (.ofNat 13, .ofNat 13))), (2, .inr (.inl (.ofNat 0, .ofNat 0))), (4, .inr (.inl (.negSucc 0, .ofNat 39)))], [], (80, []))]
noncomputable def vd_774_0_0 : List (List Nat) := [[0]]
noncomputable def vd_774_0 : List (List (List Nat)) := [vd_774_0_0]
noncomputable def vd_774 : List (List (List (List Nat))) := [vd_774_0]
noncomputable def vt_774 : List (List am_I) := []
noncomputable def vc_774 : vm_C := (fun _ => vp_774, fun pc => [], [], 1, vm_inst 8 1 vt_774 vf_774 vd_774)
theorem vx_774_0 : vm_chk bt_149 [] vk_774 13 vc_774 0 1 = true := by decide +kernel
theorem vy_774 : vm_ents 149 13 vc_774 ve_774 = true := by decide +kernel
theorem vw_774 : ∀ q ∈ vk_774, vm_wt 1 q := vm_wts vm_kn (by decide +kernel)
theorem v_774 : vm_at 2 q_774 := vm_ok (inl := []) (es := ve_774) bq_149 (by decide) vw_774 vy_774 (fun i => vm_hc vx_774_0 rfl (fun h => absurd h (Nat.not_lt_zero _))) _ List.mem_cons_self
noncomputable def vp_775 : List vm_R := [(some (.inl (.ofNat 0, .ofNat 1)), va_h0)]
noncomputable def ve_775 : List vm_E := [([.inr (.inl (.ofNat 14, .ofNat 14)), .inr (.inl (.ofNat 0, .ofNat 0)), .inr (.inl (.negSucc 0, .ofNat 39))], va_h0, 0, [0])]
noncomputable def q_775 : vm_Q := (149, [.inr (.inl (.ofNat 14, .ofNat 14)), .inr (.inl (.ofNat 0, .ofNat 0)), .inr (.inl (.negSucc 0, .ofNat 39))], va_h0, vp_775)
noncomputable def vk_775 : List vm_U := []
noncomputable def vf_775 : List ((Nat → am_I) → vm_A) := [fun v => (0, [(0, .inr (.inl (.ofNat 14, .ofNat 14))), (2, .inr (.inl (.ofNat 0, .ofNat 0))), (4, .inr (.inl (.negSucc 0, .ofNat 39)))], [], (80, []))]
noncomputable def vd_775_0_0 : List (List Nat) := [[0]]
noncomputable def vd_775_0 : List (List (List Nat)) := [vd_775_0_0]
noncomputable def vd_775 : List (List (List (List Nat))) := [vd_775_0]
noncomputable def vt_775 : List (List am_I) := []
noncomputable def vc_775 : vm_C := (fun _ => vp_775, fun pc => [], [], 1, vm_inst 8 1 vt_775 vf_775 vd_775)
theorem vx_775_0 : vm_chk bt_149 [] vk_775 13 vc_775 0 1 = true := by decide +kernel
theorem vy_775 : vm_ents 149 13 vc_775 ve_775 = true := by decide +kernel
theorem vw_775 : ∀ q ∈ vk_775, vm_wt 1 q := vm_wts vm_kn (by decide +kernel)
theorem v_775 : vm_at 2 q_775 := vm_ok (inl := []) (es := ve_775) bq_149 (by decide) vw_775 vy_775 (fun i => vm_hc vx_775_0 rfl (fun h => absurd h (Nat.not_lt_zero _))) _ List.mem_cons_self
noncomputable def vp_776 : List vm_R := [(some (.inl (.ofNat 0, .ofNat 1)), va_h0)]
noncomputable def ve_776 : List vm_E := [([.inr (.inl (.ofNat 15, .ofNat 15)), .inr (.inl (.ofNat 0, .ofNat 0)), .inr (.inl (.negSucc 0, .ofNat 39))], va_h0, 0, [0])]
noncomputable def q_776 : vm_Q := (149, [.inr (.inl (.ofNat 15, .ofNat 15)), .inr (.inl (.ofNat 0, .ofNat 0)), .inr (.inl (.negSucc 0, .ofNat 39))], va_h0, vp_776)
noncomputable def vk_776 : List vm_U := []
noncomputable def vf_776 : List ((Nat → am_I) → vm_A) := [fun v => (0, [(0, .inr (.inl (.ofNat 15, .ofNat 15))), (2, .inr (.inl (.ofNat 0, .ofNat 0))), (4, .inr (.inl (.negSucc 0, .ofNat 39)))], [], (80, []))]
noncomputable def vd_776_0_0 : List (List Nat) := [[0]]
noncomputable def vd_776_0 : List (List (List Nat)) := [vd_776_0_0]
noncomputable def vd_776 : List (List (List (List Nat))) := [vd_776_0]
noncomputable def vt_776 : List (List am_I) := []
noncomputable def vc_776 : vm_C := (fun _ => vp_776, fun pc => [], [], 1, vm_inst 8 1 vt_776 vf_776 vd_776)
theorem vx_776_0 : vm_chk bt_149 [] vk_776 13 vc_776 0 1 = true := by decide +kernel
theorem vy_776 : vm_ents 149 13 vc_776 ve_776 = true := by decide +kernel
theorem vw_776 : ∀ q ∈ vk_776, vm_wt 1 q := vm_wts vm_kn (by decide +kernel)
theorem v_776 : vm_at 2 q_776 := vm_ok (inl := []) (es := ve_776) bq_149 (by decide) vw_776 vy_776 (fun i => vm_hc vx_776_0 rfl (fun h => absurd h (Nat.not_lt_zero _))) _ List.mem_cons_self
noncomputable def vp_777 : List vm_R := [(some (.inl (.ofNat 0, .ofNat 1)), va_h0)]
noncomputable def ve_777 : List vm_E := [([.inr (.inl (.ofNat 16, .ofNat 16)), .inr (.inl (.ofNat 0, .ofNat 0)), .inr (.inl (.negSucc 0, .ofNat 39))], va_h0, 0, [0])]
noncomputable def q_777 : vm_Q := (149, [.inr (.inl (.ofNat 16, .ofNat 16)), .inr (.inl (.ofNat 0, .ofNat 0)), .inr (.inl (.negSucc 0, .ofNat 39))], va_h0, vp_777)
noncomputable def vk_777 : List vm_U := []
noncomputable def vf_777 : List ((Nat → am_I) → vm_A) := [fun v => (0, [(0, .inr (.inl (.ofNat 16, .ofNat 16))), (2, .inr (.inl (.ofNat 0, .ofNat 0))), (4, .inr (.inl (.negSucc 0, .ofNat 39)))], [], (80, []))]
noncomputable def vd_777_0_0 : List (List Nat) := [[0]]
noncomputable def vd_777_0 : List (List (List Nat)) := [vd_777_0_0]
noncomputable def vd_777 : List (List (List (List Nat))) := [vd_777_0]
noncomputable def vt_777 : List (List am_I) := []
noncomputable def vc_777 : vm_C := (fun _ => vp_777, fun pc => [], [], 1, vm_inst 8 1 vt_777 vf_777 vd_777)
theorem vx_777_0 : vm_chk bt_149 [] vk_777 13 vc_777 0 1 = true := by decide +kernel
theorem vy_777 : vm_ents 149 13 vc_777 ve_777 = true := by decide +kernel
theorem vw_777 : ∀ q ∈ vk_777, vm_wt 1 q := vm_wts vm_kn (by decide +kernel)
theorem v_777 : vm_at 2 q_777 := vm_ok (inl := []) (es := ve_777) bq_149 (by decide) vw_777 vy_777 (fun i => vm_hc vx_777_0 rfl (fun h => absurd h (Nat.not_lt_zero _))) _ List.mem_cons_self
noncomputable def vp_778 : List vm_R := [(some (.inl (.ofNat 0, .ofNat 1)), va_h0)]
noncomputable def ve_778 : List vm_E := [([.inr (.inl (.ofNat 17, .ofNat 17)), .inr (.inl (.ofNat 0, .ofNat 0)), .inr (.inl (.negSucc 0, .ofNat 39))], va_h0, 0, [0])]
noncomputable def q_778 : vm_Q := (149, [.inr (.inl (.ofNat 17, .ofNat 17)), .inr (.inl (.ofNat 0, .ofNat 0)), .inr (.inl (.negSucc 0, .ofNat 39))], va_h0, vp_778)
noncomputable def vk_778 : List vm_U := []
noncomputable def vf_778 : List ((Nat → am_I) → vm_A) := [fun v => (0, [(0, .inr (.inl (.ofNat 17, .ofNat 17))), (2, .inr (.inl (.ofNat 0, .ofNat 0))), (4, .inr (.inl (.negSucc 0, .ofNat 39)))], [], (80, []))]
noncomputable def vd_778_0_0 : List (List Nat) := [[0]]
noncomputable def vd_778_0 : List (List (List Nat)) := [vd_778_0_0]
noncomputable def vd_778 : List (List (List (List Nat))) := [vd_778_0]
noncomputable def vt_778 : List (List am_I) := []
noncomputable def vc_778 : vm_C := (fun _ => vp_778, fun pc => [], [], 1, vm_inst 8 1 vt_778 vf_778 vd_778)
theorem vx_778_0 : vm_chk bt_149 [] vk_778 13 vc_778 0 1 = true := by decide +kernel
theorem vy_778 : vm_ents 149 13 vc_778 ve_778 = true := by decide +kernel
theorem vw_778 : ∀ q ∈ vk_778, vm_wt 1 q := vm_wts vm_kn (by decide +kernel)
theorem v_778 : vm_at 2 q_778 := vm_ok (inl := []) (es := ve_778) bq_149 (by decide) vw_778 vy_778 (fun i => vm_hc vx_778_0 rfl (fun h => absurd h (Nat.not_lt_zero _))) _ List.mem_cons_self
noncomputable def vp_779 : List vm_R := [(some (.inl (.ofNat 0, .ofNat 1)), va_h0)]
noncomputable def ve_779 : List vm_E := [([.inr (.inl (.ofNat 18, .ofNat 18)), .inr (.inl (.ofNat 0, .ofNat 0)), .inr (.inl (.negSucc 0, .ofNat 39))], va_h0, 0, [0])]
noncomputable def q_779 : vm_Q := (149, [.inr (.inl (.ofNat 18, .ofNat 18)), .inr (.inl (.ofNat 0, .ofNat 0)), .inr (.inl (.negSucc 0, .ofNat 39))], va_h0, vp_779)
noncomputable def vk_779 : List vm_U := []
noncomputable def vf_779 : List ((Nat → am_I) → vm_A) := [fun v => (0, [(0, .inr (.inl (.ofNat 18, .ofNat 18))), (2, .inr (.inl (.ofNat 0, .ofNat 0))), (4, .inr (.inl (.negSucc 0, .ofNat 39)))], [], (80, []))]
noncomputable def vd_779_0_0 : List (List Nat) := [[0]]
noncomputable def vd_779_0 : List (List (List Nat)) := [vd_779_0_0]
noncomputable def vd_779 : List (List (List (List Nat))) := [vd_779_0]
noncomputable def vt_779 : List (List am_I) := []
noncomputable def vc_779 : vm_C := (fun _ => vp_779, fun pc => [], [], 1, vm_inst 8 1 vt_779 vf_779 vd_779)
theorem vx_779_0 : vm_chk bt_149 [] vk_779 13 vc_779 0 1 = true := by decide +kernel
theorem vy_779 : vm_ents 149 13 vc_779 ve_779 = true := by decide +kernel
theorem vw_779 : ∀ q ∈ vk_779, vm_wt 1 q := vm_wts vm_kn (by decide +kernel)
theorem v_779 : vm_at 2 q_779 := vm_ok (inl := []) (es := ve_779) bq_149 (by decide) vw_779 vy_779 (fun i => vm_hc vx_779_0 rfl (fun h => absurd h (Nat.not_lt_zero _))) _ List.mem_cons_self
noncomputable def vp_780 : List vm_R := [(some (.inl (.ofNat 0, .ofNat 1)), va_h0)]
noncomputable def ve_780 : List vm_E := [([.inr (.inl (.ofNat 19, .ofNat 19)), .inr (.inl (.ofNat 0, .ofNat 0)), .inr (.inl (.negSucc 0, .ofNat 39))], va_h0, 0, [0])]
noncomputable def q_780 : vm_Q := (149, [.inr (.inl (.ofNat 19, .ofNat 19)), .inr (.inl (.ofNat 0, .ofNat 0)), .inr (.inl (.negSucc 0, .ofNat 39))], va_h0, vp_780)
noncomputable def vk_780 : List vm_U := []
noncomputable def vf_780 : List ((Nat → am_I) → vm_A) := [fun v => (0, [(0, .inr (.inl (.ofNat 19, .ofNat 19))), (2, .inr (.inl (.ofNat 0, .ofNat 0))), (4, .inr (.inl (.negSucc 0, .ofNat 39)))], [], (80, []))]
noncomputable def vd_780_0_0 : List (List Nat) := [[0]]
noncomputable def vd_780_0 : List (List (List Nat)) := [vd_780_0_0]
noncomputable def vd_780 : List (List (List (List Nat))) := [vd_780_0]
noncomputable def vt_780 : List (List am_I) := []
noncomputable def vc_780 : vm_C := (fun _ => vp_780, fun pc => [], [], 1, vm_inst 8 1 vt_780 vf_780 vd_780)
theorem vx_780_0 : vm_chk bt_149 [] vk_780 13 vc_780 0 1 = true := by decide +kernel
theorem vy_780 : vm_ents 149 13 vc_780 ve_780 = true := by decide +kernel
theorem vw_780 : ∀ q ∈ vk_780, vm_wt 1 q := vm_wts vm_kn (by decide +kernel)
theorem v_780 : vm_at 2 q_780 := vm_ok (inl := []) (es := ve_780) bq_149 (by decide) vw_780 vy_780 (fun i => vm_hc vx_780_0 rfl (fun h => absurd h (Nat.not_lt_zero _))) _ List.mem_cons_self
noncomputable def vp_781 : List vm_R := [(some (.inl (.ofNat 0, .ofNat 1)), va_h0)]
noncomputable def ve_781 : List vm_E := [([.inr (.inl (.ofNat 20, .ofNat 20)), .inr (.inl (.ofNat 0, .ofNat 0)), .inr (.inl (.negSucc 0, .ofNat 39))], va_h0, 0, [0])]
noncomputable def q_781 : vm_Q := (149, [.inr (.inl (.ofNat 20, .ofNat 20)), .inr (.inl (.ofNat 0, .ofNat 0)), .inr (.inl (.negSucc 0, .ofNat 39))], va_h0, vp_781)
noncomputable def vk_781 : List vm_U := []
noncomputable def vf_781 : List ((Nat → am_I) → vm_A) := [fun v => (0, [(0, .inr (.inl (.ofNat 20, .ofNat 20))), (2, .inr (.inl (.ofNat 0, .ofNat 0))), (4, .inr (.inl (.negSucc 0, .ofNat 39)))], [], (80, []))]
noncomputable def vd_781_0_0 : List (List Nat) := [[0]]
noncomputable def vd_781_0 : List (List (List Nat)) := [vd_781_0_0]
noncomputable def vd_781 : List (List (List (List Nat))) := [vd_781_0]
noncomputable def vt_781 : List (List am_I) := []
noncomputable def vc_781 : vm_C := (fun _ => vp_781, fun pc => [], [], 1, vm_inst 8 1 vt_781 vf_781 vd_781)
theorem vx_781_0 : vm_chk bt_149 [] vk_781 13 vc_781 0 1 = true := by decide +kernel
theorem vy_781 : vm_ents 149 13 vc_781 ve_781 = true := by decide +kernel
theorem vw_781 : ∀ q ∈ vk_781, vm_wt 1 q := vm_wts vm_kn (by decide +kernel)
theorem v_781 : vm_at 2 q_781 := vm_ok (inl := []) (es := ve_781) bq_149 (by decide) vw_781 vy_781 (fun i => vm_hc vx_781_0 rfl (fun h => absurd h (Nat.not_lt_zero _))) _ List.mem_cons_self
noncomputable def vp_782 : List vm_R := [(some (.inl (.ofNat 0, .ofNat 1)), va_h0)]
noncomputable def ve_782 : List vm_E := [([.inr (.inl (.ofNat 21, .ofNat 21)), .inr (.inl (.ofNat 0, .ofNat 0)), .inr (.inl (.negSucc 0, .ofNat 39))], va_h0, 0, [0])]
noncomputable def q_782 : vm_Q := (149, [.inr (.inl (.ofNat 21, .ofNat 21)), .inr (.inl (.ofNat 0, .ofNat 0)), .inr (.inl (.negSucc 0, .ofNat 39))], va_h0, vp_782)
noncomputable def vk_782 : List vm_U := []
noncomputable def vf_782 : List ((Nat → am_I) → vm_A) := [fun v => (0, [(0, .inr (.inl (.ofNat 21, .ofNat 21))), (2, .inr (.inl (.ofNat 0, .ofNat 0))), (4, .inr (.inl (.negSucc 0, .ofNat 39)))], [], (80, []))]
noncomputable def vd_782_0_0 : List (List Nat) := [[0]]
noncomputable def vd_782_0 : List (List (List Nat)) := [vd_782_0_0]
noncomputable def vd_782 : List (List (List (List Nat))) := [vd_782_0]
noncomputable def vt_782 : List (List am_I) := []
noncomputable def vc_782 : vm_C := (fun _ => vp_782, fun pc => [], [], 1, vm_inst 8 1 vt_782 vf_782 vd_782)
theorem vx_782_0 : vm_chk bt_149 [] vk_782 13 vc_782 0 1 = true := by decide +kernel
theorem vy_782 : vm_ents 149 13 vc_782 ve_782 = true := by decide +kernel
theorem vw_782 : ∀ q ∈ vk_782, vm_wt 1 q := vm_wts vm_kn (by decide +kernel)
theorem v_782 : vm_at 2 q_782 := vm_ok (inl := []) (es := ve_782) bq_149 (by decide) vw_782 vy_782 (fun i => vm_hc vx_782_0 rfl (fun h => absurd h (Nat.not_lt_zero _))) _ List.mem_cons_self
noncomputable def vp_783 : List vm_R := [(some (.inl (.ofNat 0, .ofNat 1)), va_h0)]
noncomputable def ve_783 : List vm_E := [([.inr (.inl (.ofNat 22, .ofNat 22)), .inr (.inl (.ofNat 0, .ofNat 0)), .inr (.inl (.negSucc 0, .ofNat 39))], va_h0, 0, [0])]
noncomputable def q_783 : vm_Q := (149, [.inr (.inl (.ofNat 22, .ofNat 22)), .inr (.inl (.ofNat 0, .ofNat 0)), .inr (.inl (.negSucc 0, .ofNat 39))], va_h0, vp_783)
noncomputable def vk_783 : List vm_U := []
noncomputable def vf_783 : List ((Nat → am_I) → vm_A) := [fun v => (0, [(0, .inr (.inl (.ofNat 22, .ofNat 22))), (2, .inr (.inl (.ofNat 0, .ofNat 0))), (4, .inr (.inl (.negSucc 0, .ofNat 39)))], [], (80, []))]
noncomputable def vd_783_0_0 : List (List Nat) := [[0]]
noncomputable def vd_783_0 : List (List (List Nat)) := [vd_783_0_0]
noncomputable def vd_783 : List (List (List (List Nat))) := [vd_783_0]
noncomputable def vt_783 : List (List am_I) := []
noncomputable def vc_783 : vm_C := (fun _ => vp_783, fun pc => [], [], 1, vm_inst 8 1 vt_783 vf_783 vd_783)
theorem vx_783_0 : vm_chk bt_149 [] vk_783 13 vc_783 0 1 = true := by decide +kernel
theorem vy_783 : vm_ents 149 13 vc_783 ve_783 = true := by decide +kernel
theorem vw_783 : ∀ q ∈ vk_783, vm_wt 1 q := vm_wts vm_kn (by decide +kernel)
theorem v_783 : vm_at 2 q_783 := vm_ok (inl := []) (es := ve_783) bq_149 (by decide) vw_783 vy_783 (fun i => vm_hc vx_783_0 rfl (fun h => absurd h (Nat.not_lt_zero _))) _ List.mem_cons_self
noncomputable def vp_784 : List vm_R := [(some (.inl (.ofNat 0, .ofNat 1)), va_h0)]
noncomputable def ve_784 : List vm_E := [([.inr (.inl (.ofNat 23, .ofNat 23)), .inr (.inl (.ofNat 0, .ofNat 0)), .inr (.inl (.negSucc 0, .ofNat 39))], va_h0, 0, [0])]
noncomputable def q_784 : vm_Q := (149, [.inr (.inl (.ofNat 23, .ofNat 23)), .inr (.inl (.ofNat 0, .ofNat 0)), .inr (.inl (.negSucc 0, .ofNat 39))], va_h0, vp_784)
noncomputable def vk_784 : List vm_U := []
noncomputable def vf_784 : List ((Nat → am_I) → vm_A) := [fun v => (0, [(0, .inr (.inl (.ofNat 23, .ofNat 23))), (2, .inr (.inl (.ofNat 0, .ofNat 0))), (4, .inr (.inl (.negSucc 0, .ofNat 39)))], [], (80, []))]
noncomputable def vd_784_0_0 : List (List Nat) := [[0]]
noncomputable def vd_784_0 : List (List (List Nat)) := [vd_784_0_0]
noncomputable def vd_784 : List (List (List (List Nat))) := [vd_784_0]
noncomputable def vt_784 : List (List am_I) := []
noncomputable def vc_784 : vm_C := (fun _ => vp_784, fun pc => [], [], 1, vm_inst 8 1 vt_784 vf_784 vd_784)
theorem vx_784_0 : vm_chk bt_149 [] vk_784 13 vc_784 0 1 = true := by decide +kernel
theorem vy_784 : vm_ents 149 13 vc_784 ve_784 = true := by decide +kernel
theorem vw_784 : ∀ q ∈ vk_784, vm_wt 1 q := vm_wts vm_kn (by decide +kernel)
theorem v_784 : vm_at 2 q_784 := vm_ok (inl := []) (es := ve_784) bq_149 (by decide) vw_784 vy_784 (fun i => vm_hc vx_784_0 rfl (fun h => absurd h (Nat.not_lt_zero _))) _ List.mem_cons_self
noncomputable def vp_785 : List vm_R := [(some (.inl (.ofNat 0, .ofNat 1)), va_h0)]
noncomputable def ve_785 : List vm_E := [([.inr (.inl (.ofNat 24, .ofNat 24)), .inr (.inl (.ofNat 0, .ofNat 0)), .inr (.inl (.negSucc 0, .ofNat 39))], va_h0, 0, [0])]
noncomputable def q_785 : vm_Q := (149, [.inr (.inl (.ofNat 24, .ofNat 24)), .inr (.inl (.ofNat 0, .ofNat 0)), .inr (.inl (.negSucc 0, .ofNat 39))], va_h0, vp_785)
noncomputable def vk_785 : List vm_U := []
noncomputable def vf_785 : List ((Nat → am_I) → vm_A) := [fun v => (0, [(0, .inr (.inl (.ofNat 24, .ofNat 24))), (2, .inr (.inl (.ofNat 0, .ofNat 0))), (4, .inr (.inl (.negSucc 0, .ofNat 39)))], [], (80, []))]
noncomputable def vd_785_0_0 : List (List Nat) := [[0]]
noncomputable def vd_785_0 : List (List (List Nat)) := [vd_785_0_0]
noncomputable def vd_785 : List (List (List (List Nat))) := [vd_785_0]
noncomputable def vt_785 : List (List am_I) := []
noncomputable def vc_785 : vm_C := (fun _ => vp_785, fun pc => [], [], 1, vm_inst 8 1 vt_785 vf_785 vd_785)
theorem vx_785_0 : vm_chk bt_149 [] vk_785 13 vc_785 0 1 = true := by decide +kernel
theorem vy_785 : vm_ents 149 13 vc_785 ve_785 = true := by decide +kernel
theorem vw_785 : ∀ q ∈ vk_785, vm_wt 1 q := vm_wts vm_kn (by decide +kernel)
theorem v_785 : vm_at 2 q_785 := vm_ok (inl := []) (es := ve_785) bq_149 (by decide) vw_785 vy_785 (fun i => vm_hc vx_785_0 rfl (fun h => absurd h (Nat.not_lt_zero _))) _ List.mem_cons_self
noncomputable def vp_786 : List vm_R := [(some (.inl (.ofNat 0, .ofNat 1)), va_h0)]
noncomputable def ve_786 : List vm_E := [([.inr (.inl (.ofNat 25, .ofNat 25)), .inr (.inl (.ofNat 0, .ofNat 0)), .inr (.inl (.negSucc 0, .ofNat 39))], va_h0, 0, [0])]
noncomputable def q_786 : vm_Q := (149, [.inr (.inl (.ofNat 25, .ofNat 25)), .inr (.inl (.ofNat 0, .ofNat 0)), .inr (.inl (.negSucc 0, .ofNat 39))], va_h0, vp_786)
noncomputable def vk_786 : List vm_U := []
noncomputable def vf_786 : List ((Nat → am_I) → vm_A) := [fun v => (0, [(0, .inr (.inl (.ofNat 25, .ofNat 25))), (2, .inr (.inl (.ofNat 0, .ofNat 0))), (4, .inr (.inl (.negSucc 0, .ofNat 39)))], [], (80, []))]
noncomputable def vd_786_0_0 : List (List Nat) := [[0]]
noncomputable def vd_786_0 : List (List (List Nat)) := [vd_786_0_0]
noncomputable def vd_786 : List (List (List (List Nat))) := [vd_786_0]
noncomputable def vt_786 : List (List am_I) := []
noncomputable def vc_786 : vm_C := (fun _ => vp_786, fun pc => [], [], 1, vm_inst 8 1 vt_786 vf_786 vd_786)
theorem vx_786_0 : vm_chk bt_149 [] vk_786 13 vc_786 0 1 = true := by decide +kernel
theorem vy_786 : vm_ents 149 13 vc_786 ve_786 = true := by decide +kernel
theorem vw_786 : ∀ q ∈ vk_786, vm_wt 1 q := vm_wts vm_kn (by decide +kernel)
theorem v_786 : vm_at 2 q_786 := vm_ok (inl := []) (es := ve_786) bq_149 (by decide) vw_786 vy_786 (fun i => vm_hc vx_786_0 rfl (fun h => absurd h (Nat.not_lt_zero _))) _ List.mem_cons_self
noncomputable def vp_787 : List vm_R := [(some (.inl (.ofNat 0, .ofNat 1)), va_h0)]
noncomputable def ve_787 : List vm_E := [([.inr (.inl (.ofNat 26, .ofNat 26)), .inr (.inl (.ofNat 0, .ofNat 0)), .inr (.inl (.negSucc 0, .ofNat 39))], va_h0, 0, [0])]
noncomputable def q_787 : vm_Q := (149, [.inr (.inl (.ofNat 26, .ofNat 26)), .inr (.inl (.ofNat 0, .ofNat 0)), .inr (.inl (.negSucc 0, .ofNat 39))], va_h0, vp_787)
noncomputable def vk_787 : List vm_U := []
noncomputable def vf_787 : List ((Nat → am_I) → vm_A) := [fun v => (0, [(0, .inr (.inl (.ofNat 26, .ofNat 26))), (2, .inr (.inl (.ofNat 0, .ofNat 0))), (4, .inr (.inl (.negSucc 0, .ofNat 39)))], [], (80, []))]
noncomputable def vd_787_0_0 : List (List Nat) := [[0]]
noncomputable def vd_787_0 : List (List (List Nat)) := [vd_787_0_0]
noncomputable def vd_787 : List (List (List (List Nat))) := [vd_787_0]
noncomputable def vt_787 : List (List am_I) := []
noncomputable def vc_787 : vm_C := (fun _ => vp_787, fun pc => [], [], 1, vm_inst 8 1 vt_787 vf_787 vd_787)
theorem vx_787_0 : vm_chk bt_149 [] vk_787 13 vc_787 0 1 = true := by decide +kernel
theorem vy_787 : vm_ents 149 13 vc_787 ve_787 = true := by decide +kernel
theorem vw_787 : ∀ q ∈ vk_787, vm_wt 1 q := vm_wts vm_kn (by decide +kernel)
theorem v_787 : vm_at 2 q_787 := vm_ok (inl := []) (es := ve_787) bq_149 (by decide) vw_787 vy_787 (fun i => vm_hc vx_787_0 rfl (fun h => absurd h (Nat.not_lt_zero _))) _ List.mem_cons_self
noncomputable def vp_788 : List vm_R := [(some (.inl (.ofNat 0, .ofNat 1)), va_h0)]
noncomputable def ve_788 : List vm_E := [([.inr (.inl (.ofNat 27, .ofNat 27)), .inr (.inl (.ofNat 0, .ofNat 0)), .inr (.inl (.negSucc 0, .ofNat 39))], va_h0, 0, [0])]
noncomputable def q_788 : vm_Q := (149, [.inr (.inl (.ofNat 27, .ofNat 27)), .inr (.inl (.ofNat 0, .ofNat 0)), .inr (.inl (.negSucc 0, .ofNat 39))], va_h0, vp_788)
noncomputable def vk_788 : List vm_U := []
noncomputable def vf_788 : List ((Nat → am_I) → vm_A) := [fun v => (0, [(0, .inr (.inl (.ofNat 27, .ofNat 27))), (2, .inr (.inl (.ofNat 0, .ofNat 0))), (4, .inr (.inl (.negSucc 0, .ofNat 39)))], [], (80, []))]
noncomputable def vd_788_0_0 : List (List Nat) := [[0]]
noncomputable def vd_788_0 : List (List (List Nat)) := [vd_788_0_0]
noncomputable def vd_788 : List (List (List (List Nat))) := [vd_788_0]
noncomputable def vt_788 : List (List am_I) := []
noncomputable def vc_788 : vm_C := (fun _ => vp_788, fun pc => [], [], 1, vm_inst 8 1 vt_788 vf_788 vd_788)
theorem vx_788_0 : vm_chk bt_149 [] vk_788 13 vc_788 0 1 = true := by decide +kernel
theorem vy_788 : vm_ents 149 13 vc_788 ve_788 = true := by decide +kernel
theorem vw_788 : ∀ q ∈ vk_788, vm_wt 1 q := vm_wts vm_kn (by decide +kernel)
theorem v_788 : vm_at 2 q_788 := vm_ok (inl := []) (es := ve_788) bq_149 (by decide) vw_788 vy_788 (fun i => vm_hc vx_788_0 rfl (fun h => absurd h (Nat.not_lt_zero _))) _ List.mem_cons_self
noncomputable def vp_789 : List vm_R := [(some (.inl (.ofNat 0, .ofNat 1)), va_h0)]
noncomputable def ve_789 : List vm_E := [([.inr (.inl (.ofNat 28, .ofNat 28)), .inr (.inl (.ofNat 0, .ofNat 0)), .inr (.inl (.negSucc 0, .ofNat 39))], va_h0, 0, [0])]
noncomputable def q_789 : vm_Q := (149, [.inr (.inl (.ofNat 28, .ofNat 28)), .inr (.inl (.ofNat 0, .ofNat 0)), .inr (.inl (.negSucc 0, .ofNat 39))], va_h0, vp_789)
noncomputable def vk_789 : List vm_U := []
noncomputable def vf_789 : List ((Nat → am_I) → vm_A) := [fun v => (0, [(0, .inr (.inl (.ofNat 28, .ofNat 28))), (2, .inr (.inl (.ofNat 0, .ofNat 0))), (4, .inr (.inl (.negSucc 0, .ofNat 39)))], [], (80, []))]
noncomputable def vd_789_0_0 : List (List Nat) := [[0]]
noncomputable def vd_789_0 : List (List (List Nat)) := [vd_789_0_0]
noncomputable def vd_789 : List (List (List (List Nat))) := [vd_789_0]
noncomputable def vt_789 : List (List am_I) := []
noncomputable def vc_789 : vm_C := (fun _ => vp_789, fun pc => [], [], 1, vm_inst 8 1 vt_789 vf_789 vd_789)
theorem vx_789_0 : vm_chk bt_149 [] vk_789 13 vc_789 0 1 = true := by decide +kernel
theorem vy_789 : vm_ents 149 13 vc_789 ve_789 = true := by decide +kernel
theorem vw_789 : ∀ q ∈ vk_789, vm_wt 1 q := vm_wts vm_kn (by decide +kernel)
theorem v_789 : vm_at 2 q_789 := vm_ok (inl := []) (es := ve_789) bq_149 (by decide) vw_789 vy_789 (fun i => vm_hc vx_789_0 rfl (fun h => absurd h (Nat.not_lt_zero _))) _ List.mem_cons_self
noncomputable def vp_790 : List vm_R := [(some (.inl (.ofNat 0, .ofNat 1)), va_h0)]
noncomputable def ve_790 : List vm_E := [([.inr (.inl (.ofNat 29, .ofNat 29)), .inr (.inl (.ofNat 0, .ofNat 0)), .inr (.inl (.negSucc 0, .ofNat 39))], va_h0, 0, [0])]
noncomputable def q_790 : vm_Q := (149, [.inr (.inl (.ofNat 29, .ofNat 29)), .inr (.inl (.ofNat 0, .ofNat 0)), .inr (.inl (.negSucc 0, .ofNat 39))], va_h0, vp_790)
noncomputable def vk_790 : List vm_U := []
noncomputable def vf_790 : List ((Nat → am_I) → vm_A) := [fun v => (0, [(0, .inr (.inl (.ofNat 29, .ofNat 29))), (2, .inr (.inl (.ofNat 0, .ofNat 0))), (4, .inr (.inl (.negSucc 0, .ofNat 39)))], [], (80, []))]
noncomputable def vd_790_0_0 : List (List Nat) := [[0]]
noncomputable def vd_790_0 : List (List (List Nat)) := [vd_790_0_0]
noncomputable def vd_790 : List (List (List (List Nat))) := [vd_790_0]
noncomputable def vt_790 : List (List am_I) := []
noncomputable def vc_790 : vm_C := (fun _ => vp_790, fun pc => [], [], 1, vm_inst 8 1 vt_790 vf_790 vd_790)
theorem vx_790_0 : vm_chk bt_149 [] vk_790 13 vc_790 0 1 = true := by decide +kernel
theorem vy_790 : vm_ents 149 13 vc_790 ve_790 = true := by decide +kernel
theorem vw_790 : ∀ q ∈ vk_790, vm_wt 1 q := vm_wts vm_kn (by decide +kernel)
theorem v_790 : vm_at 2 q_790 := vm_ok (inl := []) (es := ve_790) bq_149 (by decide) vw_790 vy_790 (fun i => vm_hc vx_790_0 rfl (fun h => absurd h (Nat.not_lt_zero _))) _ List.mem_cons_self
noncomputable def vp_791 : List vm_R := [(some (.inl (.ofNat 0, .ofNat 1)), va_h0)]
noncomputable def ve_791 : List vm_E := [([.inr (.inl (.ofNat 30, .ofNat 30)), .inr (.inl (.ofNat 0, .ofNat 0)), .inr (.inl (.negSucc 0, .ofNat 39))], va_h0, 0, [0])]
noncomputable def q_791 : vm_Q := (149, [.inr (.inl (.ofNat 30, .ofNat 30)), .inr (.inl (.ofNat 0, .ofNat 0)), .inr (.inl (.negSucc 0, .ofNat 39))], va_h0, vp_791)
noncomputable def vk_791 : List vm_U := []
noncomputable def vf_791 : List ((Nat → am_I) → vm_A) := [fun v => (0, [(0, .inr (.inl (.ofNat 30, .ofNat 30))), (2, .inr (.inl (.ofNat 0, .ofNat 0))), (4, .inr (.inl (.negSucc 0, .ofNat 39)))], [], (80, []))]
noncomputable def vd_791_0_0 : List (List Nat) := [[0]]
noncomputable def vd_791_0 : List (List (List Nat)) := [vd_791_0_0]
noncomputable def vd_791 : List (List (List (List Nat))) := [vd_791_0]
noncomputable def vt_791 : List (List am_I) := []
noncomputable def vc_791 : vm_C := (fun _ => vp_791, fun pc => [], [], 1, vm_inst 8 1 vt_791 vf_791 vd_791)
theorem vx_791_0 : vm_chk bt_149 [] vk_791 13 vc_791 0 1 = true := by decide +kernel
theorem vy_791 : vm_ents 149 13 vc_791 ve_791 = true := by decide +kernel
theorem vw_791 : ∀ q ∈ vk_791, vm_wt 1 q := vm_wts vm_kn (by decide +kernel)
theorem v_791 : vm_at 2 q_791 := vm_ok (inl := []) (es := ve_791) bq_149 (by decide) vw_791 vy_791 (fun i => vm_hc vx_791_0 rfl (fun h => absurd h (Nat.not_lt_zero _))) _ List.mem_cons_self
noncomputable def vp_792 : List vm_R := [(some (.inl (.ofNat 0, .ofNat 1)), va_h0)]
noncomputable def ve_792 : List vm_E := [([.inr (.inl (.ofNat 31, .ofNat 31)), .inr (.inl (.ofNat 0, .ofNat 0)), .inr (.inl (.negSucc 0, .ofNat 39))], va_h0, 0, [0])]
noncomputable def q_792 : vm_Q := (149, [.inr (.inl (.ofNat 31, .ofNat 31)), .inr (.inl (.ofNat 0, .ofNat 0)), .inr (.inl (.negSucc 0, .ofNat 39))], va_h0, vp_792)
noncomputable def vk_792 : List vm_U := []
noncomputable def vf_792 : List ((Nat → am_I) → vm_A) := [fun v => (0, [(0, .inr (.inl (.ofNat 31, .ofNat 31))), (2, .inr (.inl (.ofNat 0, .ofNat 0))), (4, .inr (.inl (.negSucc 0, .ofNat 39)))], [], (80, []))]
noncomputable def vd_792_0_0 : List (List Nat) := [[0]]
noncomputable def vd_792_0 : List (List (List Nat)) := [vd_792_0_0]
noncomputable def vd_792 : List (List (List (List Nat))) := [vd_792_0]
noncomputable def vt_792 : List (List am_I) := []
noncomputable def vc_792 : vm_C := (fun _ => vp_792, fun pc => [], [], 1, vm_inst 8 1 vt_792 vf_792 vd_792)
theorem vx_792_0 : vm_chk bt_149 [] vk_792 13 vc_792 0 1 = true := by decide +kernel
theorem vy_792 : vm_ents 149 13 vc_792 ve_792 = true := by decide +kernel
theorem vw_792 : ∀ q ∈ vk_792, vm_wt 1 q := vm_wts vm_kn (by decide +kernel)
theorem v_792 : vm_at 2 q_792 := vm_ok (inl := []) (es := ve_792) bq_149 (by decide) vw_792 vy_792 (fun i => vm_hc vx_792_0 rfl (fun h => absurd h (Nat.not_lt_zero _))) _ List.mem_cons_self
noncomputable def vp_793 : List vm_R := [(some (.inl (.ofNat 0, .ofNat 1)), va_h0)]
noncomputable def ve_793 : List vm_E := [([.inr (.inl (.ofNat 32, .ofNat 32)), .inr (.inl (.ofNat 0, .ofNat 0)), .inr (.inl (.negSucc 0, .ofNat 39))], va_h0, 0, [0])]
noncomputable def q_793 : vm_Q := (149, [.inr (.inl (.ofNat 32, .ofNat 32)), .inr (.inl (.ofNat 0, .ofNat 0)), .inr (.inl (.negSucc 0, .ofNat 39))], va_h0, vp_793)
noncomputable def vk_793 : List vm_U := []
noncomputable def vf_793 : List ((Nat → am_I) → vm_A) := [fun v => (0, [(0, .inr (.inl (.ofNat 32, .ofNat 32))), (2, .inr (.inl (.ofNat 0, .ofNat 0))), (4, .inr (.inl (.negSucc 0, .ofNat 39)))], [], (80, []))]
noncomputable def vd_793_0_0 : List (List Nat) := [[0]]
noncomputable def vd_793_0 : List (List (List Nat)) := [vd_793_0_0]
noncomputable def vd_793 : List (List (List (List Nat))) := [vd_793_0]
noncomputable def vt_793 : List (List am_I) := []
noncomputable def vc_793 : vm_C := (fun _ => vp_793, fun pc => [], [], 1, vm_inst 8 1 vt_793 vf_793 vd_793)
theorem vx_793_0 : vm_chk bt_149 [] vk_793 13 vc_793 0 1 = true := by decide +kernel
theorem vy_793 : vm_ents 149 13 vc_793 ve_793 = true := by decide +kernel
theorem vw_793 : ∀ q ∈ vk_793, vm_wt 1 q := vm_wts vm_kn (by decide +kernel)
theorem v_793 : vm_at 2 q_793 := vm_ok (inl := []) (es := ve_793) bq_149 (by decide) vw_793 vy_793 (fun i => vm_hc vx_793_0 rfl (fun h => absurd h (Nat.not_lt_zero _))) _ List.mem_cons_self
noncomputable def vp_794 : List vm_R := [(some (.inl (.ofNat 0, .ofNat 1)), va_h0)]
noncomputable def ve_794 : List vm_E := [([.inr (.inl (.ofNat 33, .ofNat 33)), .inr (.inl (.ofNat 0, .ofNat 0)), .inr (.inl (.negSucc 0, .ofNat 39))], va_h0, 0, [0])]
noncomputable def q_794 : vm_Q := (149, [.inr (.inl (.ofNat 33, .ofNat 33)), .inr (.inl (.ofNat 0, .ofNat 0)), .inr (.inl (.negSucc 0, .ofNat 39))], va_h0, vp_794)
noncomputable def vk_794 : List vm_U := []
noncomputable def vf_794 : List ((Nat → am_I) → vm_A) := [fun v => (0, [(0, .inr (.inl (.ofNat 33, .ofNat 33))), (2, .inr (.inl (.ofNat 0, .ofNat 0))), (4, .inr (.inl (.negSucc 0, .ofNat 39)))], [], (80, []))]
noncomputable def vd_794_0_0 : List (List Nat) := [[0]]
noncomputable def vd_794_0 : List (List (List Nat)) := [vd_794_0_0]
noncomputable def vd_794 : List (List (List (List Nat))) := [vd_794_0]
noncomputable def vt_794 : List (List am_I) := []
noncomputable def vc_794 : vm_C := (fun _ => vp_794, fun pc => [], [], 1, vm_inst 8 1 vt_794 vf_794 vd_794)
theorem vx_794_0 : vm_chk bt_149 [] vk_794 13 vc_794 0 1 = true := by decide +kernel
theorem vy_794 : vm_ents 149 13 vc_794 ve_794 = true := by decide +kernel
theorem vw_794 : ∀ q ∈ vk_794, vm_wt 1 q := vm_wts vm_kn (by decide +kernel)
theorem v_794 : vm_at 2 q_794 := vm_ok (inl := []) (es := ve_794) bq_149 (by decide) vw_794 vy_794 (fun i => vm_hc vx_794_0 rfl (fun h => absurd h (Nat.not_lt_zero _))) _ List.mem_cons_self
noncomputable def vp_795 : List vm_R := [(some (.inl (.ofNat 0, .ofNat 1)), va_h0)]
noncomputable def ve_795 : List vm_E := [([.inr (.inl (.ofNat 34, .ofNat 34)), .inr (.inl (.ofNat 0, .ofNat 0)), .inr (.inl (.negSucc 0, .ofNat 39))], va_h0, 0, [0])]
noncomputable def q_795 : vm_Q := (149, [.inr (.inl (.ofNat 34, .ofNat 34)), .inr (.inl (.ofNat 0, .ofNat 0)), .inr (.inl (.negSucc 0, .ofNat 39))], va_h0, vp_795)
noncomputable def vk_795 : List vm_U := []
noncomputable def vf_795 : List ((Nat → am_I) → vm_A) := [fun v => (0, [(0, .inr (.inl (.ofNat 34, .ofNat 34))), (2, .inr (.inl (.ofNat 0, .ofNat 0))), (4, .inr (.inl (.negSucc 0, .ofNat 39)))], [], (80, []))]
noncomputable def vd_795_0_0 : List (List Nat) := [[0]]
noncomputable def vd_795_0 : List (List (List Nat)) := [vd_795_0_0]
noncomputable def vd_795 : List (List (List (List Nat))) := [vd_795_0]
noncomputable def vt_795 : List (List am_I) := []
noncomputable def vc_795 : vm_C := (fun _ => vp_795, fun pc => [], [], 1, vm_inst 8 1 vt_795 vf_795 vd_795)
theorem vx_795_0 : vm_chk bt_149 [] vk_795 13 vc_795 0 1 = true := by decide +kernel
theorem vy_795 : vm_ents 149 13 vc_795 ve_795 = true := by decide +kernel
theorem vw_795 : ∀ q ∈ vk_795, vm_wt 1 q := vm_wts vm_kn (by decide +kernel)
theorem v_795 : vm_at 2 q_795 := vm_ok (inl := []) (es := ve_795) bq_149 (by decide) vw_795 vy_795 (fun i => vm_hc vx_795_0 rfl (fun h => absurd h (Nat.not_lt_zero _))) _ List.mem_cons_self
noncomputable def vp_796 : List vm_R := [(some (.inl (.ofNat 0, .ofNat 1)), va_h0)]
noncomputable def ve_796 : List vm_E := [([.inr (.inl (.ofNat 35, .ofNat 35)), .inr (.inl (.ofNat 0, .ofNat 0)), .inr (.inl (.negSucc 0, .ofNat 39))], va_h0, 0, [0])]
noncomputable def q_796 : vm_Q := (149, [.inr (.inl (.ofNat 35, .ofNat 35)), .inr (.inl (.ofNat 0, .ofNat 0)), .inr (.inl (.negSucc 0, .ofNat 39))], va_h0, vp_796)
noncomputable def vk_796 : List vm_U := []
noncomputable def vf_796 : List ((Nat → am_I) → vm_A) := [fun v => (0, [(0, .inr (.inl (.ofNat 35, .ofNat 35))), (2, .inr (.inl (.ofNat 0, .ofNat 0))), (4, .inr (.inl (.negSucc 0, .ofNat 39)))], [], (80, []))]
noncomputable def vd_796_0_0 : List (List Nat) := [[0]]
noncomputable def vd_796_0 : List (List (List Nat)) := [vd_796_0_0]
noncomputable def vd_796 : List (List (List (List Nat))) := [vd_796_0]
noncomputable def vt_796 : List (List am_I) := []
noncomputable def vc_796 : vm_C := (fun _ => vp_796, fun pc => [], [], 1, vm_inst 8 1 vt_796 vf_796 vd_796)
theorem vx_796_0 : vm_chk bt_149 [] vk_796 13 vc_796 0 1 = true := by decide +kernel
theorem vy_796 : vm_ents 149 13 vc_796 ve_796 = true := by decide +kernel
theorem vw_796 : ∀ q ∈ vk_796, vm_wt 1 q := vm_wts vm_kn (by decide +kernel)
theorem v_796 : vm_at 2 q_796 := vm_ok (inl := []) (es := ve_796) bq_149 (by decide) vw_796 vy_796 (fun i => vm_hc vx_796_0 rfl (fun h => absurd h (Nat.not_lt_zero _))) _ List.mem_cons_self
noncomputable def vp_797 : List vm_R := [(some (.inl (.ofNat 0, .ofNat 1)), va_h0)]
noncomputable def ve_797 : List vm_E := [([.inr (.inl (.ofNat 36, .ofNat 36)), .inr (.inl (.ofNat 0, .ofNat 0)), .inr (.inl (.negSucc 0, .ofNat 39))], va_h0, 0, [0])]
noncomputable def q_797 : vm_Q := (149, [.inr (.inl (.ofNat 36, .ofNat 36)), .inr (.inl (.ofNat 0, .ofNat 0)), .inr (.inl (.negSucc 0, .ofNat 39))], va_h0, vp_797)
noncomputable def vk_797 : List vm_U := []
noncomputable def vf_797 : List ((Nat → am_I) → vm_A) := [fun v => (0, [(0, .inr (.inl (.ofNat 36, .ofNat 36))), (2, .inr (.inl (.ofNat 0, .ofNat 0))), (4, .inr (.inl (.negSucc 0, .ofNat 39)))], [], (80, []))]
noncomputable def vd_797_0_0 : List (List Nat) := [[0]]
noncomputable def vd_797_0 : List (List (List Nat)) := [vd_797_0_0]
noncomputable def vd_797 : List (List (List (List Nat))) := [vd_797_0]
noncomputable def vt_797 : List (List am_I) := []
noncomputable def vc_797 : vm_C := (fun _ => vp_797, fun pc => [], [], 1, vm_inst 8 1 vt_797 vf_797 vd_797)
theorem vx_797_0 : vm_chk bt_149 [] vk_797 13 vc_797 0 1 = true := by decide +kernel
theorem vy_797 : vm_ents 149 13 vc_797 ve_797 = true := by decide +kernel
theorem vw_797 : ∀ q ∈ vk_797, vm_wt 1 q := vm_wts vm_kn (by decide +kernel)
theorem v_797 : vm_at 2 q_797 := vm_ok (inl := []) (es := ve_797) bq_149 (by decide) vw_797 vy_797 (fun i => vm_hc vx_797_0 rfl (fun h => absurd h (Nat.not_lt_zero _))) _ List.mem_cons_self
noncomputable def vp_798 : List vm_R := [(some (.inl (.ofNat 0, .ofNat 1)), va_h0)]
noncomputable def ve_798 : List vm_E := [([.inr (.inl (.ofNat 37, .ofNat 37)), .inr (.inl (.ofNat 0, .ofNat 0)), .inr (.inl (.negSucc 0, .ofNat 39))], va_h0, 0, [0])]
noncomputable def q_798 : vm_Q := (149, [.inr (.inl (.ofNat 37, .ofNat 37)), .inr (.inl (.ofNat 0, .ofNat 0)), .inr (.inl (.negSucc 0, .ofNat 39))], va_h0, vp_798)
noncomputable def vk_798 : List vm_U := []
noncomputable def vf_798 : List ((Nat → am_I) → vm_A) := [fun v => (0, [(0, .inr (.inl (.ofNat 37, .ofNat 37))), (2, .inr (.inl (.ofNat 0, .ofNat 0))), (4, .inr (.inl (.negSucc 0, .ofNat 39)))], [], (80, []))]
noncomputable def vd_798_0_0 : List (List Nat) := [[0]]
noncomputable def vd_798_0 : List (List (List Nat)) := [vd_798_0_0]
noncomputable def vd_798 : List (List (List (List Nat))) := [vd_798_0]
noncomputable def vt_798 : List (List am_I) := []
noncomputable def vc_798 : vm_C := (fun _ => vp_798, fun pc => [], [], 1, vm_inst 8 1 vt_798 vf_798 vd_798)
theorem vx_798_0 : vm_chk bt_149 [] vk_798 13 vc_798 0 1 = true := by decide +kernel
theorem vy_798 : vm_ents 149 13 vc_798 ve_798 = true := by decide +kernel
theorem vw_798 : ∀ q ∈ vk_798, vm_wt 1 q := vm_wts vm_kn (by decide +kernel)
theorem v_798 : vm_at 2 q_798 := vm_ok (inl := []) (es := ve_798) bq_149 (by decide) vw_798 vy_798 (fun i => vm_hc vx_798_0 rfl (fun h => absurd h (Nat.not_lt_zero _))) _ List.mem_cons_self
noncomputable def vp_799 : List vm_R := [(some (.inl (.ofNat 0, .ofNat 1)), va_h0)]
noncomputable def ve_799 : List vm_E := [([.inr (.inl (.ofNat 38, .ofNat 38)), .inr (.inl (.ofNat 0, .ofNat 0)), .inr (.inl (.negSucc 0, .ofNat 39))], va_h0, 0, [0])]
noncomputable def q_799 : vm_Q := (149, [.inr (.inl (.ofNat 38, .ofNat 38)), .inr (.inl (.ofNat 0, .ofNat 0)), .inr (.inl (.negSucc 0, .ofNat 39))], va_h0, vp_799)
noncomputable def vk_799 : List vm_U := []
noncomputable def vf_799 : List ((Nat → am_I) → vm_A) := [fun v => (0, [(0, .inr (.inl (.ofNat 38, .ofNat 38))), (2, .inr (.inl (.ofNat 0, .ofNat 0))), (4, .inr (.inl (.negSucc 0, .ofNat 39)))], [], (80, []))]
noncomputable def vd_799_0_0 : List (List Nat) := [[0]]
noncomputable def vd_799_0 : List (List (List Nat)) := [vd_799_0_0]
noncomputable def vd_799 : List (List (List (List Nat))) := [vd_799_0]
noncomputable def vt_799 : List (List am_I) := []
noncomputable def vc_799 : vm_C := (fun _ => vp_799, fun pc => [], [], 1, vm_inst 8 1 vt_799 vf_799 vd_799)
theorem vx_799_0 : vm_chk bt_149 [] vk_799 13 vc_799 0 1 = true := by decide +kernel
theorem vy_799 : vm_ents 149 13 vc_799 ve_799 = true := by decide +kernel
theorem vw_799 : ∀ q ∈ vk_799, vm_wt 1 q := vm_wts vm_kn (by decide +kernel)
theorem v_799 : vm_at 2 q_799 := vm_ok (inl := []) (es := ve_799) bq_149 (by decide) vw_799 vy_799 (fun i => vm_hc vx_799_0 rfl (fun h => absurd h (Nat.not_lt_zero _))) _ List.mem_cons_self
noncomputable def vp_800 : List vm_R := [(some (.inl (.ofNat 0, .ofNat 1)), va_h0)]
noncomputable def ve_800 : List vm_E := [([.inr (.inl (.ofNat 39, .ofNat 39)), .inr (.inl (.ofNat 0, .ofNat 0)), .inr (.inl (.negSucc 0, .ofNat 39))], va_h0, 0, [0])]
noncomputable def q_800 : vm_Q := (149, [.inr (.inl (.ofNat 39, .ofNat 39)), .inr (.inl (.ofNat 0, .ofNat 0)), .inr (.inl (.negSucc 0, .ofNat 39))], va_h0, vp_800)
noncomputable def vk_800 : List vm_U := []
noncomputable def vf_800 : List ((Nat → am_I) → vm_A) := [fun v => (0, [(0, .inr (.inl (.ofNat 39, .ofNat 39))), (2, .inr (.inl (.ofNat 0, .ofNat 0))), (4, .inr (.inl (.negSucc 0, .ofNat 39)))], [], (80, []))]
noncomputable def vd_800_0_0 : List (List Nat) := [[0]]
noncomputable def vd_800_0 : List (List (List Nat)) := [vd_800_0_0]
noncomputable def vd_800 : List (List (List (List Nat))) := [vd_800_0]
noncomputable def vt_800 : List (List am_I) := []
noncomputable def vc_800 : vm_C := (fun _ => vp_800, fun pc => [], [], 1, vm_inst 8 1 vt_800 vf_800 vd_800)
theorem vx_800_0 : vm_chk bt_149 [] vk_800 13 vc_800 0 1 = true := by decide +kernel
theorem vy_800 : vm_ents 149 13 vc_800 ve_800 = true := by decide +kernel
theorem vw_800 : ∀ q ∈ vk_800, vm_wt 1 q := vm_wts vm_kn (by decide +kernel)
theorem v_800 : vm_at 2 q_800 := vm_ok (inl := []) (es := ve_800) bq_149 (by decide) vw_800 vy_800 (fun i => vm_hc vx_800_0 rfl (fun h => absurd h (Nat.not_lt_zero _))) _ List.mem_cons_self
noncomputable def vp_801 : List vm_R := [(some (.inl (.ofNat 0, .ofNat 0)), va_h0)]
noncomputable def ve_801 : List vm_E := [([.inr (.inl (.ofNat 40, .ofNat 2147483647)), .inr (.inl (.ofNat 0, .ofNat 0)), .inr (.inl (.negSucc 0, .ofNat 39))], va_h0, 0, [0])]
noncomputable def q_801 : vm_Q := (149, [.inr (.inl (.ofNat 40, .ofNat 2147483647)), .inr (.inl (.ofNat 0, .ofNat 0)), .inr (.inl (.negSucc 0, .ofNat 39))], va_h0, vp_801)
noncomputable def vk_801 : List vm_U := []
noncomputable def vf_801 : List ((Nat → am_I) → vm_A) := [fun v => (0, [(0, .inr (.inl (.ofNat 40, .ofNat 2147483647))), (2, .inr (.inl (.ofNat 0, .ofNat 0))), (4, .inr (.inl (.negSucc 0, .ofNat 39)))], [], (80, []))]
noncomputable def vd_801_0_0 : List (List Nat) := [[0]]
noncomputable def vd_801_0 : List (List (List Nat)) := [vd_801_0_0]
noncomputable def vd_801 : List (List (List (List Nat))) := [vd_801_0]
noncomputable def vt_801 : List (List am_I) := []
noncomputable def vc_801 : vm_C := (fun _ => vp_801, fun pc => [], [], 1, vm_inst 8 1 vt_801 vf_801 vd_801)
theorem vx_801_0 : vm_chk bt_149 [] vk_801 12 vc_801 0 1 = true := by decide +kernel
theorem vy_801 : vm_ents 149 12 vc_801 ve_801 = true := by decide +kernel
theorem vw_801 : ∀ q ∈ vk_801, vm_wt 1 q := vm_wts vm_kn (by decide +kernel)
theorem v_801 : vm_at 2 q_801 := vm_ok (inl := []) (es := ve_801) bq_149 (by decide) vw_801 vy_801 (fun i => vm_hc vx_801_0 rfl (fun h => absurd h (Nat.not_lt_zero _))) _ List.mem_cons_self
noncomputable def vp_802 : List vm_R := [(some (.inl (.ofNat 1, .ofNat 1)), va_h0)]
noncomputable def ve_802 : List vm_E := [([.inl (.ofNat 1, .ofNat 1), .inl (.ofNat 0, .ofNat 0)], va_h0, 0, [0])]
noncomputable def q_802 : vm_Q := (220, [.inl (.ofNat 1, .ofNat 1), .inl (.ofNat 0, .ofNat 0)], va_h0, vp_802)
noncomputable def vk_802 : List vm_U := [(q_573, true, []), (q_758, true, [])]
noncomputable def vf_802 : List ((Nat → am_I) → vm_A) := [fun v => (0, [(0, .inl (.ofNat 1, .ofNat 1)), (1, .inl (.ofNat 0, .ofNat 0))], [], (80, []))]
noncomputable def vd_802_0_0 : List (List Nat) := [[0]]
noncomputable def vd_802_0 : List (List (List Nat)) := [vd_802_0_0]
noncomputable def vd_802 : List (List (List (List Nat))) := [vd_802_0]
noncomputable def vt_802 : List (List am_I) := []
noncomputable def vc_802 : vm_C := (fun _ => vp_802, fun pc => [], [], 1, vm_inst 8 1 vt_802 vf_802 vd_802)
theorem vx_802_0 : vm_chk bt_220 [] vk_802 17 vc_802 0 1 = true := by decide +kernel
theorem vy_802 : vm_ents 220 17 vc_802 ve_802 = true := by decide +kernel
theorem vw_802 : ∀ q ∈ vk_802, vm_wt 2 q := vm_wts (vm_kc (vm_up v_573 rfl) (vm_kc (vm_up v_758 rfl) vm_kn)) (by decide +kernel)
theorem v_802 : vm_at 3 q_802 := vm_ok (inl := []) (es := ve_802) bq_220 (by decide) vw_802 vy_802 (fun i => vm_hc vx_802_0 rfl (fun h => absurd h (Nat.not_lt_zero _))) _ List.mem_cons_self
noncomputable def vp_803 : List vm_R := [(some (.inl (.ofNat 1, .ofNat 1)), va_h0)]
noncomputable def ve_803 : List vm_E := [([.inl (.ofNat 2, .ofNat 2), .inl (.ofNat 0, .ofNat 0)], va_h0, 0, [0])]
noncomputable def q_803 : vm_Q := (220, [.inl (.ofNat 2, .ofNat 2), .inl (.ofNat 0, .ofNat 0)], va_h0, vp_803)
noncomputable def vk_803 : List vm_U := [(q_574, true, []), (q_758, true, [])]
noncomputable def vf_803 : List ((Nat → am_I) → vm_A) := [fun v => (0, [(0, .inl (.ofNat 2, .ofNat 2)), (1, .inl (.ofNat 0, .ofNat 0))], [], (80, []))]
noncomputable def vd_803_0_0 : List (List Nat) := [[0]]
noncomputable def vd_803_0 : List (List (List Nat)) := [vd_803_0_0]
noncomputable def vd_803 : List (List (List (List Nat))) := [vd_803_0]
noncomputable def vt_803 : List (List am_I) := []
noncomputable def vc_803 : vm_C := (fun _ => vp_803, fun pc => [], [], 1, vm_inst 8 1 vt_803 vf_803 vd_803)
theorem vx_803_0 : vm_chk bt_220 [] vk_803 17 vc_803 0 1 = true := by decide +kernel
theorem vy_803 : vm_ents 220 17 vc_803 ve_803 = true := by decide +kernel
theorem vw_803 : ∀ q ∈ vk_803, vm_wt 2 q := vm_wts (vm_kc (vm_up v_574 rfl) (vm_kc (vm_up v_758 rfl) vm_kn)) (by decide +kernel)
theorem v_803 : vm_at 3 q_803 := vm_ok (inl := []) (es := ve_803) bq_220 (by decide) vw_803 vy_803 (fun i => vm_hc vx_803_0 rfl (fun h => absurd h (Nat.not_lt_zero _))) _ List.mem_cons_self
noncomputable def vp_804 : List vm_R := [(some (.inl (.ofNat 1, .ofNat 1)), va_h0)]
noncomputable def ve_804 : List vm_E := [([.inl (.ofNat 3, .ofNat 3), .inl (.ofNat 0, .ofNat 0)], va_h0, 0, [0])]
noncomputable def q_804 : vm_Q := (220, [.inl (.ofNat 3, .ofNat 3), .inl (.ofNat 0, .ofNat 0)], va_h0, vp_804)
noncomputable def vk_804 : List vm_U := [(q_575, true, []), (q_758, true, [])]
noncomputable def vf_804 : List ((Nat → am_I) → vm_A) := [fun v => (0, [(0, .inl (.ofNat 3, .ofNat 3)), (1, .inl (.ofNat 0, .ofNat 0))], [], (80, []))]
noncomputable def vd_804_0_0 : List (List Nat) := [[0]]
noncomputable def vd_804_0 : List (List (List Nat)) := [vd_804_0_0]
noncomputable def vd_804 : List (List (List (List Nat))) := [vd_804_0]
noncomputable def vt_804 : List (List am_I) := []
noncomputable def vc_804 : vm_C := (fun _ => vp_804, fun pc => [], [], 1, vm_inst 8 1 vt_804 vf_804 vd_804)
theorem vx_804_0 : vm_chk bt_220 [] vk_804 17 vc_804 0 1 = true := by decide +kernel
theorem vy_804 : vm_ents 220 17 vc_804 ve_804 = true := by decide +kernel
theorem vw_804 : ∀ q ∈ vk_804, vm_wt 2 q := vm_wts (vm_kc (vm_up v_575 rfl) (vm_kc (vm_up v_758 rfl) vm_kn)) (by decide +kernel)
theorem v_804 : vm_at 3 q_804 := vm_ok (inl := []) (es := ve_804) bq_220 (by decide) vw_804 vy_804 (fun i => vm_hc vx_804_0 rfl (fun h => absurd h (Nat.not_lt_zero _))) _ List.mem_cons_self
noncomputable def vp_805 : List vm_R := [(some (.inl (.ofNat 0, .ofNat 0)), va_h0)]
noncomputable def ve_805 : List vm_E := [([.inl (.ofNat 4, .ofNat 2147483647), .inl (.ofNat 0, .ofNat 0)], va_h0, 0, [0])]
noncomputable def q_805 : vm_Q := (220, [.inl (.ofNat 4, .ofNat 2147483647), .inl (.ofNat 0, .ofNat 0)], va_h0, vp_805)
noncomputable def vk_805 : List vm_U := [(q_576, true, [])]
noncomputable def vf_805 : List ((Nat → am_I) → vm_A) := [fun v => (0, [(0, .inl (.ofNat 4, .ofNat 2147483647)), (1, .inl (.ofNat 0, .ofNat 0))], [], (80, []))]
noncomputable def vd_805_0_0 : List (List Nat) := [[0]]
noncomputable def vd_805_0 : List (List (List Nat)) := [vd_805_0_0]
noncomputable def vd_805 : List (List (List (List Nat))) := [vd_805_0]
noncomputable def vt_805 : List (List am_I) := []
noncomputable def vc_805 : vm_C := (fun _ => vp_805, fun pc => [], [], 1, vm_inst 8 1 vt_805 vf_805 vd_805)
theorem vx_805_0 : vm_chk bt_220 [] vk_805 10 vc_805 0 1 = true := by decide +kernel
theorem vy_805 : vm_ents 220 10 vc_805 ve_805 = true := by decide +kernel
theorem vw_805 : ∀ q ∈ vk_805, vm_wt 2 q := vm_wts (vm_kc (vm_up v_576 rfl) vm_kn) (by decide +kernel)
theorem v_805 : vm_at 3 q_805 := vm_ok (inl := []) (es := ve_805) bq_220 (by decide) vw_805 vy_805 (fun i => vm_hc vx_805_0 rfl (fun h => absurd h (Nat.not_lt_zero _))) _ List.mem_cons_self
noncomputable def vp_806 : List vm_R := [(some (.inl (.negSucc 11, .ofNat 1)), va_h0)]
noncomputable def ve_806 : List vm_E := [([.inr (.inr (some 70)), .inl am_top, .inl am_top, .inl am_top], va_h0, 0, [0, 1, 2, 3, 4, 5, 6, 7, 8, 9, 10, 11, 12, 13, 14, 15, 16, 17, 18, 19, 20, 21, 22, 23, 24, 25, 26, 27, 28, 29, 30, 31, 32, 33, 34, 35, 36, 37, 38, 39, 40, 41, 42, 43, 44, 45, 46, 47, 48, 49, 50, 51, 52, 53, 54, 55, 56, 57, 58, 59, 60, 61, 62, 63, 64, 65, 66, 67, 68, 69, 70, 71, 72, 73, 74, 75, 76, 77, 78, 79, 80, 81, 82, 83, 84, 85, 86, 87, 88, 89, 90, 91, 92, 93, 94, 95, 96, 97, 98, 99, 100, 101, 102, 103, 104, 105, 106, 107, 108, 109, 110, 111, 112, 113, 114, 115, 116, 117, 118, 119, 120, 121, 122, 123, 124, 125, 126, 127, 128, 129, 130, 131, 132, 133, 134, 135, 136, 137, 138, 139, 140, 141, 142, 143, 144, 145, 146, 147, 148, 149, 150, 151, 152, 153, 154, 155, 156, 157, 158, 159, 160, 161, 162, 163, 164, 165, 166, 167, 168, 169, 170, 171, 172, 173, 174, 175, 176, 177, 178, 179, 180, 181, 182, 183, 184, 185, 186, 187, 188, 189, 190, 191, 192, 193, 194, 195, 196, 197, 198, 199, 200, 201, 202, 203, 204, 205, 206, 207, 208, 209, 210, 211, 212, 213, 214, 215, 216, 217, 218, 219, 220, 221, 222, 223, 224, 225, 226, 227, 228, 229, 230, 231, 232, 233, 234, 235, 236, 237, 238, 239, 240, 241, 242, 243, 244, 245, 246, 247, 248, 249, 250, 251])]
noncomputable def q_806 : vm_Q := (221, [.inr (.inr (some 70)), .inl am_top, .inl am_top, .inl am_top], va_h0, vp_806)
noncomputable def vk_806 : List vm_U := [(q_761, true, []), (q_762, true, []), (q_763, true, []), (q_764, true, []), (q_765, true, []), (q_766, true, []), (q_767, true, []), (q_768, true, []), (q_769, true, []), (q_770, true, []), (q_771, true, []), (q_772, true, []), (q_773, true, []), (q_774, true, []), (q_775, true, []), (q_776, true, []), (q_777, true, []), (q_778, true, []), (q_779, true, []), (q_780, true, []), (q_781, true, []), (q_782, true, []), (q_783, true, []), (q_784, true, []), (q_785, true, []), (q_786, true, []), (q_787, true, []), (q_788, true, []), (q_789, true, []), (q_790, true, []), (q_791, true, []), (q_792, true, []), (q_793, true, []), (q_794, true, []), (q_795, true, []), (q_796, true, []), (q_797, true, []), (q_798, true, []), (q_799, true, []), (q_800, true, []), (q_801, true, []), (q_760, true, []), (q_759, true, []), (q_802, true, []), (q_803, true, []), (q_804, true, []), (q_805, true, []), (q_757, true, [])]
noncomputable def vf_806 : List ((Nat → am_I) → vm_A) := [fun v => (0, [(0, .inr (.inr (some 70))), (1, .inl (v 0)), (2, .inl (v 1)), (3, .inl am_top)], [], (80, []))]
noncomputable def vd_806_0_0 : List (List Nat) := [[176764747776, 168174813184, 163879845888, 159584878592, 155289911296, 150994944000, 146699976704, 142405009408], [138110042112, 133815074816, 129520107520, 125225140224, 120930172928, 116635205632, 112340238336, 108045271040], [103750303744, 99455336448, 95160369152, 90865401856, 86570434560, 82275467264, 77980499968, 73685532672], [69390565376, 65095598080, 60800630784, 56505663488, 52210696192, 47915728896, 43620761600, 39325794304], [35030827008, 30735859712, 26440892416, 22145925120, 17850957824, 13555990528, 9261023232, 4966055936], [671088640, 181059715072, 176143990784, 167554056192, 163259088896, 158964121600, 154669154304, 150374187008], [146079219712, 141784252416, 137489285120, 133194317824, 128899350528, 124604383232, 120309415936, 116014448640], [111719481344, 107424514048, 103129546752, 98834579456, 94539612160, 90244644864, 85949677568, 81654710272]]
noncomputable def vd_806_0_1 : List (List Nat) := [[77359742976, 73064775680, 68769808384, 64474841088, 60179873792, 55884906496, 51589939200, 47294971904], [43000004608, 38705037312, 34410070016, 30115102720, 25820135424, 21525168128, 17230200832, 12935233536], [8640266240, 4345298944, 50331648, 180438958080, 176127213568, 167537278976, 163242311680, 158947344384], [154652377088, 150357409792, 146062442496, 141767475200, 137472507904, 133177540608, 128882573312, 124587606016], [120292638720, 115997671424, 111702704128, 107407736832, 103112769536, 98817802240, 94522834944, 90227867648], [85932900352, 81637933056, 77342965760, 73047998464, 68753031168, 64458063872, 60163096576, 55868129280], [51573161984, 47278194688, 42983227392, 38688260096, 34393292800, 30098325504, 25803358208, 21508390912], [17213423616, 12918456320, 8623489024, 4328521728, 33554432, 180422180864, 176110436352, 167520501760]]
noncomputable def vd_806_0_2 : List (List Nat) := [[163225534464, 158930567168, 154635599872, 150340632576, 146045665280, 141750697984, 137455730688, 133160763392], [128865796096, 124570828800, 120275861504, 115980894208, 111685926912, 107390959616, 103095992320, 98801025024], [94506057728, 90211090432, 85916123136, 81621155840, 77326188544, 73031221248, 68736253952, 64441286656], [60146319360, 55851352064, 51556384768, 47261417472, 42966450176, 38671482880, 34376515584, 30081548288], [25786580992, 21491613696, 17196646400, 12901679104, 8606711808, 4311744512, 16777216, 180405403648], [176093659136, 167503724544, 163208757248, 158913789952, 154618822656, 150323855360, 146028888064, 141733920768], [137438953472, 133143986176, 128849018880, 124554051584, 120259084288, 115964116992, 111669149696, 107374182400], [103079215104, 98784247808, 94489280512, 90194313216, 85899345920, 81604378624, 77309411328, 73014444032]]
noncomputable def vd_806_0_3 : List (List Nat) := [[68719476736, 64424509440, 60129542144, 55834574848, 51539607552, 47244640256, 42949672960, 38654705664], [34359738368, 30064771072, 25769803776, 21474836480, 17179869184, 12884901888, 8589934592, 4294967296], [0, 180388626432, 176798302208, 168208367616, 163913400320, 159618433024, 155323465728, 151028498432], [146733531136, 142438563840, 138143596544, 133848629248, 129553661952, 125258694656, 120963727360, 116668760064], [112373792768, 108078825472, 103783858176, 99488890880, 95193923584, 90898956288, 86603988992, 82309021696], [78014054400, 73719087104, 69424119808, 65129152512, 60834185216, 56539217920, 52244250624, 47949283328], [43654316032, 39359348736, 35064381440, 30769414144, 26474446848, 22179479552, 17884512256, 13589544960], [9294577664, 4999610368, 704643072, 181093269504]]
noncomputable def vd_806_0 : List (List (List Nat)) := [vd_806_0_0, vd_806_0_1, vd_806_0_2, vd_806_0_3]
noncomputable def vd_806 : List (List (List (List Nat))) := [vd_806_0]
noncomputable def vt_806 : List (List am_I) := [[(.ofNat 4, .ofNat 2147483647), (.ofNat 40, .ofNat 2147483647), (.negSucc 2147483647, .negSucc 0)]]
noncomputable def vc_806 : vm_C := (fun _ => vp_806, fun pc => (match Nat.beq pc 0 with
  | true => [(fun _ _ => some (.inl 1), fun _ _ => some [.ofNat 0, .ofNat 1, .ofNat 2, .ofNat 3, .ofNat 4]), (fun _ _ => some (.inl 2), fun _ _ => some [.ofNat 0, .ofNat 1, .ofNat 2, .ofNat 3, .ofNat 4, .ofNat 5, .ofNat 6, .ofNat 7, .ofNat 8, .ofNat 9, .ofNat 10, .ofNat 11, .ofNat 12, .ofNat 13, .ofNat 14, .ofNat 15, .ofNat 16, .ofNat 17, .ofNat 18, .ofNat 19, .ofNat 20, .ofNat 21, .ofNat 22, .ofNat 23, .ofNat 24, .ofNat 25, .ofNat 26, .ofNat 27, .ofNat 28, .ofNat 29, .ofNat 30, .ofNat 31, .ofNat 32, .ofNat 33, .ofNat 34, .ofNat 35, .ofNat 36, .ofNat 37, .ofNat 38, .ofNat 39, .ofNat 40])]
  | false => []), [], 252, vm_inst 8 40 vt_806 vf_806 vd_806)
theorem vx_806_0 : vm_chk bt_221 [] vk_806 48 vc_806 0 20 = true := by decide +kernel
theorem vx_806_1 : vm_chk bt_221 [] vk_806 48 vc_806 20 20 = true := by decide +kernel
theorem vx_806_2 : vm_chk bt_221 [] vk_806 48 vc_806 40 7 = true := by decide +kernel
theorem vx_806_3 : vm_chk bt_221 [] vk_806 48 vc_806 47 4 = true := by decide +kernel
theorem vx_806_4 : vm_chk bt_221 [] vk_806 48 vc_806 51 4 = true := by decide +kernel
theorem vx_806_5 : vm_chk bt_221 [] vk_806 48 vc_806 55 4 = true := by decide +kernel
theorem vx_806_6 : vm_chk bt_221 [] vk_806 48 vc_806 59 4 = true := by decide +kernel
theorem vx_806_7 : vm_chk bt_221 [] vk_806 48 vc_806 63 4 = true := by decide +kernel
theorem vx_806_8 : vm_chk bt_221 [] vk_806 48 vc_806 67 4 = true := by decide +kernel
theorem vx_806_9 : vm_chk bt_221 [] vk_806 48 vc_806 71 4 = true := by decide +kernel
theorem vx_806_10 : vm_chk bt_221 [] vk_806 48 vc_806 75 4 = true := by decide +kernel
theorem vx_806_11 : vm_chk bt_221 [] vk_806 48 vc_806 79 4 = true := by decide +kernel
theorem vx_806_12 : vm_chk bt_221 [] vk_806 48 vc_806 83 5 = true := by decide +kernel
theorem vx_806_13 : vm_chk bt_221 [] vk_806 48 vc_806 88 4 = true := by decide +kernel
theorem vx_806_14 : vm_chk bt_221 [] vk_806 48 vc_806 92 4 = true := by decide +kernel
theorem vx_806_15 : vm_chk bt_221 [] vk_806 48 vc_806 96 4 = true := by decide +kernel
theorem vx_806_16 : vm_chk bt_221 [] vk_806 48 vc_806 100 4 = true := by decide +kernel
theorem vx_806_17 : vm_chk bt_221 [] vk_806 48 vc_806 104 4 = true := by decide +kernel
theorem vx_806_18 : vm_chk bt_221 [] vk_806 48 vc_806 108 4 = true := by decide +kernel
theorem vx_806_19 : vm_chk bt_221 [] vk_806 48 vc_806 112 4 = true := by decide +kernel
theorem vx_806_20 : vm_chk bt_221 [] vk_806 48 vc_806 116 4 = true := by decide +kernel
theorem vx_806_21 : vm_chk bt_221 [] vk_806 48 vc_806 120 4 = true := by decide +kernel
theorem vx_806_22 : vm_chk bt_221 [] vk_806 48 vc_806 124 5 = true := by decide +kernel
theorem vx_806_23 : vm_chk bt_221 [] vk_806 48 vc_806 129 4 = true := by decide +kernel
theorem vx_806_24 : vm_chk bt_221 [] vk_806 48 vc_806 133 4 = true := by decide +kernel
theorem vx_806_25 : vm_chk bt_221 [] vk_806 48 vc_806 137 4 = true := by decide +kernel
theorem vx_806_26 : vm_chk bt_221 [] vk_806 48 vc_806 141 4 = true := by decide +kernel
theorem vx_806_27 : vm_chk bt_221 [] vk_806 48 vc_806 145 4 = true := by decide +kernel
theorem vx_806_28 : vm_chk bt_221 [] vk_806 48 vc_806 149 4 = true := by decide +kernel
theorem vx_806_29 : vm_chk bt_221 [] vk_806 48 vc_806 153 4 = true := by decide +kernel
theorem vx_806_30 : vm_chk bt_221 [] vk_806 48 vc_806 157 4 = true := by decide +kernel
theorem vx_806_31 : vm_chk bt_221 [] vk_806 48 vc_806 161 4 = true := by decide +kernel
theorem vx_806_32 : vm_chk bt_221 [] vk_806 48 vc_806 165 5 = true := by decide +kernel
theorem vx_806_33 : vm_chk bt_221 [] vk_806 48 vc_806 170 4 = true := by decide +kernel
theorem vx_806_34 : vm_chk bt_221 [] vk_806 48 vc_806 174 4 = true := by decide +kernel
theorem vx_806_35 : vm_chk bt_221 [] vk_806 48 vc_806 178 4 = true := by decide +kernel
theorem vx_806_36 : vm_chk bt_221 [] vk_806 48 vc_806 182 4 = true := by decide +kernel
theorem vx_806_37 : vm_chk bt_221 [] vk_806 48 vc_806 186 4 = true := by decide +kernel
theorem vx_806_38 : vm_chk bt_221 [] vk_806 48 vc_806 190 4 = true := by decide +kernel
theorem vx_806_39 : vm_chk bt_221 [] vk_806 48 vc_806 194 4 = true := by decide +kernel
theorem vx_806_40 : vm_chk bt_221 [] vk_806 48 vc_806 198 4 = true := by decide +kernel
theorem vx_806_41 : vm_chk bt_221 [] vk_806 48 vc_806 202 4 = true := by decide +kernel
theorem vx_806_42 : vm_chk bt_221 [] vk_806 48 vc_806 206 7 = true := by decide +kernel
theorem vx_806_43 : vm_chk bt_221 [] vk_806 48 vc_806 213 20 = true := by decide +kernel
theorem vx_806_44 : vm_chk bt_221 [] vk_806 48 vc_806 233 19 = true := by decide +kernel
theorem vy_806 : vm_ents 221 48 vc_806 ve_806 = true := by decide +kernel
theorem vgr_806_0 (i : Nat) : i < 198 → ∃ lo k, lo ≤ i ∧ i < lo + k ∧ vm_chk bt_221 [] vk_806 48 vc_806 lo k = true := vm_hc vx_806_39 rfl (vm_hc vx_806_38 rfl (vm_hc vx_806_37 rfl (vm_hc vx_806_36 rfl (vm_hc vx_806_35 rfl (vm_hc vx_806_34 rfl (vm_hc vx_806_33 rfl (vm_hc vx_806_32 rfl (vm_hc vx_806_31 rfl (vm_hc vx_806_30 rfl (vm_hc vx_806_29 rfl (vm_hc vx_806_28 rfl (vm_hc vx_806_27 rfl (vm_hc vx_806_26 rfl (vm_hc vx_806_25 rfl (vm_hc vx_806_24 rfl (vm_hc vx_806_23 rfl (vm_hc vx_806_22 rfl (vm_hc vx_806_21 rfl (vm_hc vx_806_20 rfl (vm_hc vx_806_19 rfl (vm_hc vx_806_18 rfl (vm_hc vx_806_17 rfl (vm_hc vx_806_16 rfl (vm_hc vx_806_15 rfl (vm_hc vx_806_14 rfl (vm_hc vx_806_13 rfl (vm_hc vx_806_12 rfl (vm_hc vx_806_11 rfl (vm_hc vx_806_10 rfl (vm_hc vx_806_9 rfl (vm_hc vx_806_8 rfl (vm_hc vx_806_7 rfl (vm_hc vx_806_6 rfl (vm_hc vx_806_5 rfl (vm_hc vx_806_4 rfl (vm_hc vx_806_3 rfl (vm_hc vx_806_2 rfl (vm_hc vx_806_1 rfl (vm_hc vx_806_0 rfl (fun h => absurd h (Nat.not_lt_zero _)))))))))))))))))))))))))))))))))))))))))
theorem vgr_806_1 (i : Nat) : i < 252 → ∃ lo k, lo ≤ i ∧ i < lo + k ∧ vm_chk bt_221 [] vk_806 48 vc_806 lo k = true := vm_hc vx_806_44 rfl (vm_hc vx_806_43 rfl (vm_hc vx_806_42 rfl (vm_hc vx_806_41 rfl (vm_hc vx_806_40 rfl (vgr_806_0 i)))))
theorem vw_806 : ∀ q ∈ vk_806, vm_wt 3 q := vm_wts (vm_kc (vm_up v_761 rfl) (vm_kc (vm_up v_762 rfl) (vm_kc (vm_up v_763 rfl) (vm_kc (vm_up v_764 rfl) (vm_kc (vm_up v_765 rfl) (vm_kc (vm_up v_766 rfl) (vm_kc (vm_up v_767 rfl) (vm_kc (vm_up v_768 rfl) (vm_kc (vm_up v_769 rfl) (vm_kc (vm_up v_770 rfl) (vm_kc (vm_up v_771 rfl) (vm_kc (vm_up v_772 rfl) (vm_kc (vm_up v_773 rfl) (vm_kc (vm_up v_774 rfl) (vm_kc (vm_up v_775 rfl) (vm_kc (vm_up v_776 rfl) (vm_kc (vm_up v_777 rfl) (vm_kc (vm_up v_778 rfl) (vm_kc (vm_up v_779 rfl) (vm_kc (vm_up v_780 rfl) (vm_kc (vm_up v_781 rfl) (vm_kc (vm_up v_782 rfl) (vm_kc (vm_up v_783 rfl) (vm_kc (vm_up v_784 rfl) (vm_kc (vm_up v_785 rfl) (vm_kc (vm_up v_786 rfl) (vm_kc (vm_up v_787 rfl) (vm_kc (vm_up v_788 rfl) (vm_kc (vm_up v_789 rfl) (vm_kc (vm_up v_790 rfl) (vm_kc (vm_up v_791 rfl) (vm_kc (vm_up v_792 rfl) (vm_kc (vm_up v_793 rfl) (vm_kc (vm_up v_794 rfl) (vm_kc (vm_up v_795 rfl) (vm_kc (vm_up v_796 rfl) (vm_kc (vm_up v_797 rfl) (vm_kc (vm_up v_798 rfl) (vm_kc (vm_up v_799 rfl) (vm_kc (vm_up v_800 rfl) (vm_kc (vm_up v_801 rfl) (vm_kc (vm_up v_760 rfl) (vm_kc (vm_up v_759 rfl) (vm_kc (vm_up v_802 rfl) (vm_kc (vm_up v_803 rfl) (vm_kc (vm_up v_804 rfl) (vm_kc (vm_up v_805 rfl) (vm_kc (vm_up v_757 rfl) vm_kn)))))))))))))))))))))))))))))))))))))))))))))))) (by decide +kernel)
theorem v_806 : vm_at 4 q_806 := vm_ok (inl := []) (es := ve_806) bq_221 (by decide) vw_806 vy_806 (fun i => vgr_806_1 i) _ List.mem_cons_self
noncomputable def vp_807 : List vm_R := [(some (.inl (.ofNat 1, .ofNat 1)), va_h0)]
noncomputable def ve_807 : List vm_E := [([.inr (.inl (.ofNat 0, .ofNat 3)), .inr (.inl (.ofNat 0, .ofNat 0)), .inr (.inl (.ofNat 3, .ofNat 3))], va_h0, 0, [0])]
noncomputable def q_807 : vm_Q := (149, [.inr (.inl (.ofNat 0, .ofNat 3)), .inr (.inl (.ofNat 0, .ofNat 0)), .inr (.inl (.ofNat 3, .ofNat 3))], va_h0, vp_807)
noncomputable def vk_807 : List vm_U := []
noncomputable def vf_807 : List ((Nat → am_I) → vm_A) := [fun v => (0, [(0, .inr (.inl (.ofNat 0, .ofNat 3))), (2, .inr (.inl (.ofNat 0, .ofNat 0))), (4, .inr (.inl (.ofNat 3, .ofNat 3)))], [], (80, []))]
noncomputable def vd_807_0_0 : List (List Nat) := [[0]]
noncomputable def vd_807_0 : List (List (List Nat)) := [vd_807_0_0]
noncomputable def vd_807 : List (List (List (List Nat))) := [vd_807_0]
noncomputable def vt_807 : List (List am_I) := []
noncomputable def vc_807 : vm_C := (fun _ => vp_807, fun pc => [], [], 1, vm_inst 8 1 vt_807 vf_807 vd_807)
theorem vx_807_0 : vm_chk bt_149 [] vk_807 13 vc_807 0 1 = true := by decide +kernel
theorem vy_807 : vm_ents 149 13 vc_807 ve_807 = true := by decide +kernel
theorem vw_807 : ∀ q ∈ vk_807, vm_wt 1 q := vm_wts vm_kn (by decide +kernel)
theorem v_807 : vm_at 2 q_807 := vm_ok (inl := []) (es := ve_807) bq_149 (by decide) vw_807 vy_807 (fun i => vm_hc vx_807_0 rfl (fun h => absurd h (Nat.not_lt_zero _))) _ List.mem_cons_self
noncomputable def vp_808 : List vm_R := [(some (.inl (.ofNat 0, .ofNat 1)), va_h0)]
noncomputable def ve_808 : List vm_E := [([.inl (.ofNat 0, .ofNat 3), .inl am_top], va_h0, 0, [0])]
noncomputable def q_808 : vm_Q := (220, [.inl (.ofNat 0, .ofNat 3), .inl am_top], va_h0, vp_808)
noncomputable def vk_808 : List vm_U := [(q_807, true, []), (q_750, true, [])]
noncomputable def vf_808 : List ((Nat → am_I) → vm_A) := [fun v => (0, [(0, .inl (.ofNat 0, .ofNat 3)), (1, .inl am_top)], [], (80, []))]
noncomputable def vd_808_0_0 : List (List Nat) := [[0]]
noncomputable def vd_808_0 : List (List (List Nat)) := [vd_808_0_0]
noncomputable def vd_808 : List (List (List (List Nat))) := [vd_808_0]
noncomputable def vt_808 : List (List am_I) := []
noncomputable def vc_808 : vm_C := (fun _ => vp_808, fun pc => [], [], 1, vm_inst 8 1 vt_808 vf_808 vd_808)
theorem vx_808_0 : vm_chk bt_220 [] vk_808 17 vc_808 0 1 = true := by decide +kernel
theorem vy_808 : vm_ents 220 17 vc_808 ve_808 = true := by decide +kernel
theorem vw_808 : ∀ q ∈ vk_808, vm_wt 2 q := vm_wts (vm_kc (vm_up v_807 rfl) (vm_kc (vm_up v_750 rfl) vm_kn)) (by decide +kernel)
theorem v_808 : vm_at 3 q_808 := vm_ok (inl := []) (es := ve_808) bq_220 (by decide) vw_808 vy_808 (fun i => vm_hc vx_808_0 rfl (fun h => absurd h (Nat.not_lt_zero _))) _ List.mem_cons_self
noncomputable def vp_809 : List vm_R := [(some (.inl (.ofNat 0, .ofNat 0)), va_h0)]
noncomputable def ve_809 : List vm_E := [([.inr (.inl (.negSucc 2147483647, .negSucc 0)), .inr (.inl (.ofNat 0, .ofNat 0)), .inr (.inl (.ofNat 20, .ofNat 20))], va_h0, 0, [0])]
noncomputable def q_809 : vm_Q := (149, [.inr (.inl (.negSucc 2147483647, .negSucc 0)), .inr (.inl (.ofNat 0, .ofNat 0)), .inr (.inl (.ofNat 20, .ofNat 20))], va_h0, vp_809)
noncomputable def vk_809 : List vm_U := []
noncomputable def vf_809 : List ((Nat → am_I) → vm_A) := [fun v => (0, [(0, .inr (.inl (.negSucc 2147483647, .negSucc 0))), (2, .inr (.inl (.ofNat 0, .ofNat 0))), (4, .inr (.inl (.ofNat 20, .ofNat 20)))], [], (80, []))]
noncomputable def vd_809_0_0 : List (List Nat) := [[0]]
noncomputable def vd_809_0 : List (List (List Nat)) := [vd_809_0_0]
noncomputable def vd_809 : List (List (List (List Nat))) := [vd_809_0]
noncomputable def vt_809 : List (List am_I) := []
noncomputable def vc_809 : vm_C := (fun _ => vp_809, fun pc => [], [], 1, vm_inst 8 1 vt_809 vf_809 vd_809)
theorem vx_809_0 : vm_chk bt_149 [] vk_809 8 vc_809 0 1 = true := by decide +kernel
theorem vy_809 : vm_ents 149 8 vc_809 ve_809 = true := by decide +kernel
theorem vw_809 : ∀ q ∈ vk_809, vm_wt 1 q := vm_wts vm_kn (by decide +kernel)
theorem v_809 : vm_at 2 q_809 := vm_ok (inl := []) (es := ve_809) bq_149 (by decide) vw_809 vy_809 (fun i => vm_hc vx_809_0 rfl (fun h => absurd h (Nat.not_lt_zero _))) _ List.mem_cons_self
noncomputable def vp_810 : List vm_R := [(some (.inl (.ofNat 1, .ofNat 1)), va_h0)]
noncomputable def ve_810 : List vm_E := [([.inr (.inl (.ofNat 0, .ofNat 20)), .inr (.inl (.ofNat 0, .ofNat 0)), .inr (.inl (.ofNat 20, .ofNat 20))], va_h0, 0, [0])]
noncomputable def q_810 : vm_Q := (149, [.inr (.inl (.ofNat 0, .ofNat 20)), .inr (.inl (.ofNat 0, .ofNat 0)), .inr (.inl (.ofNat 20, .ofNat 20))], va_h0, vp_810)
noncomputable def vk_810 : List vm_U := []
noncomputable def vf_810 : List ((Nat → am_I) → vm_A) := [fun v => (0, [(0, .inr (.inl (.ofNat 0, .ofNat 20))), (2, .inr (.inl (.ofNat 0, .ofNat 0))), (4, .inr (.inl (.ofNat 20, .ofNat 20)))], [], (80, []))]
noncomputable def vd_810_0_0 : List (List Nat) := [[0]]
noncomputable def vd_810_0 : List (List (List Nat)) := [vd_810_0_0]
noncomputable def vd_810 : List (List (List (List Nat))) := [vd_810_0]
noncomputable def vt_810 : List (List am_I) := []
noncomputable def vc_810 : vm_C := (fun _ => vp_810, fun pc => [], [], 1, vm_inst 8 1 vt_810 vf_810 vd_810)
theorem vx_810_0 : vm_chk bt_149 [] vk_810 13 vc_810 0 1 = true := by decide +kernel
theorem vy_810 : vm_ents 149 13 vc_810 ve_810 = true := by decide +kernel
theorem vw_810 : ∀ q ∈ vk_810, vm_wt 1 q := vm_wts vm_kn (by decide +kernel)
theorem v_810 : vm_at 2 q_810 := vm_ok (inl := []) (es := ve_810) bq_149 (by decide) vw_810 vy_810 (fun i => vm_hc vx_810_0 rfl (fun h => absurd h (Nat.not_lt_zero _))) _ List.mem_cons_self
noncomputable def vp_811 : List vm_R := [(some (.inl (.ofNat 0, .ofNat 0)), va_h0)]
noncomputable def ve_811 : List vm_E := [([.inr (.inl (.ofNat 21, .ofNat 2147483647)), .inr (.inl (.ofNat 0, .ofNat 0)), .inr (.inl (.ofNat 20, .ofNat 20))], va_h0, 0, [0])]
noncomputable def q_811 : vm_Q := (149, [.inr (.inl (.ofNat 21, .ofNat 2147483647)), .inr (.inl (.ofNat 0, .ofNat 0)), .inr (.inl (.ofNat 20, .ofNat 20))], va_h0, vp_811)
noncomputable def vk_811 : List vm_U := []
noncomputable def vf_811 : List ((Nat → am_I) → vm_A) := [fun v => (0, [(0, .inr (.inl (.ofNat 21, .ofNat 2147483647))), (2, .inr (.inl (.ofNat 0, .ofNat 0))), (4, .inr (.inl (.ofNat 20, .ofNat 20)))], [], (80, []))]
noncomputable def vd_811_0_0 : List (List Nat) := [[0]]
noncomputable def vd_811_0 : List (List (List Nat)) := [vd_811_0_0]
noncomputable def vd_811 : List (List (List (List Nat))) := [vd_811_0]
noncomputable def vt_811 : List (List am_I) := []
noncomputable def vc_811 : vm_C := (fun _ => vp_811, fun pc => [], [], 1, vm_inst 8 1 vt_811 vf_811 vd_811)
theorem vx_811_0 : vm_chk bt_149 [] vk_811 12 vc_811 0 1 = true := by decide +kernel
theorem vy_811 : vm_ents 149 12 vc_811 ve_811 = true := by decide +kernel
theorem vw_811 : ∀ q ∈ vk_811, vm_wt 1 q := vm_wts vm_kn (by decide +kernel)
theorem v_811 : vm_at 2 q_811 := vm_ok (inl := []) (es := ve_811) bq_149 (by decide) vw_811 vy_811 (fun i => vm_hc vx_811_0 rfl (fun h => absurd h (Nat.not_lt_zero _))) _ List.mem_cons_self
noncomputable def vp_812 : List vm_R := [(some (.inl (.negSucc 38, .ofNat 20)), va_h0)]
noncomputable def ve_812 : List vm_E := [([.inr (.inr (some 70)), .inl am_top, .inl am_top, .inl am_top, .inl am_top], va_h0, 0, [0, 1, 2, 3, 4, 5, 6, 7, 8, 9, 10, 25, 26, 27, 712, 713, 714, 729, 730, 731, 732, 733, 734, 735, 736, 737, 738])]
noncomputable def q_812 : vm_Q := (222, [.inr (.inr (some 70)), .inl am_top, .inl am_top, .inl am_top, .inl am_top], va_h0, vp_812)
noncomputable def vk_812 : List vm_U := [(q_810, true, []), (q_811, true, []), (q_809, true, []), (q_618, false, []), (q_808, true, []), (q_755, true, []), (q_749, true, [])]
noncomputable def vf_812 : List ((Nat → am_I) → vm_A) := [fun v => (0, [(0, .inr (.inr (some 70))), (1, .inl (v 0)), (2, .inl am_top), (3, .inl (v 1)), (4, .inl (v 2))], [], (80, [])), fun v => (26, [(0, .inr (.inr (some 70))), (1, .inl (.ofNat 0, .ofNat 3)), (2, .inl am_top), (3, .inl (v 0)), (4, .inl (.ofNat 0, .ofNat 20)), (5, .inl (v 1))], [], (80, [])), fun v => (63, [(0, .inr (.inr (some 70))), (1, .inl (.ofNat 0, .ofNat 3)), (2, .inl am_top), (3, .inl (v 0)), (4, .inl (.ofNat 0, .ofNat 20)), (5, .inl (.ofNat 0, .ofNat 0)), (6, .inl (.ofNat 0, .ofNat 0)), (7, .inl (.ofNat 0, .ofNat 0))], [], (80, [])), fun v => (78, [(0, .inr (.inr (some 70))), (1, .inl (.ofNat 0, .ofNat 3)), (2, .inl am_top), (3, .inl (v 0)), (4, .inl (.ofNat 0, .ofNat 20)), (5, .inl (.ofNat 0, .ofNat 0)), (6, .inl (.ofNat 0, .ofNat 0)), (7, .inl (.ofNat 0, .ofNat 0)), (8, .inl (.ofNat 0, .ofNat 0))], [], (80, [])), fun v => (78, [(0, .inr (.inr (some 70))), (1, .inl (.ofNat 0, .ofNat 3)), (2, .inl am_top), (3, .inl (v 0)), (4, .inl (.ofNat 0, .ofNat 20)), (5, .inl (v 1)), (6, .inl (v 2)), (7, .inl (v 3)), (8, .inl (v 4)), (9, .inr (.inl am_topl))], [], (80, [])), fun v => (63, [(0, .inr (.inr (some 70))), (1, .inl (.ofNat 0, .ofNat 3)), (2, .inl am_top), (3, .inl (v 0)), (4, .inl (.ofNat 0, .ofNat 20)), (5, .inl (v 1)), (6, .inl (v 2)), (7, .inl (v 3)), (8, .inl am_top), (9, .inr (.inl am_topl))], [], (80, [])), fun v => (209, [(0, .inr (.inr (some 70))), (1, .inl am_top), (2, .inl am_top), (3, .inl am_top), (4, .inl am_top), (5, .inl am_top), (6, .inl am_top), (7, .inl (v 0)), (8, .inl am_top), (9, .inl (v 1))], [], (80, []))]
noncomputable def vd_812_0_0 : List (List Nat) := [[802738974601771076020076544, 803947900421385705194782720, 805156826241000334369488896, 802739048388747370858283008, 803947974208362000032989184, 805156900027976629207695360, 802739029942003297148731392, 803947955761617926323437568], [805156881581232555498143744, 802738974603459925880340480, 52687529602126614040091832614912, 12230191320873727688705, 1221156010935502902394881, 2430081830550132077101057, 3639007650164761251807233, 4847933469779390426513409], [6056859289394019601219585, 12230191320873727688706, 52528276582697427771196641902595, 340282366920940893545205157563845312516, 79228162551344443650522218501, 340282366920942102471024772193020018692, 79228162569791187724231770117, 340282366920939684619385542934670606340], [79228162532897699576812666885, 805156826242689184229752832, 802739048390436220718546944, 52687534437829892498608531439616, 12303978297168565895169, 1221229797911797740601345, 2430155617526426915307521, 3639081437141056090013697], [4848007256755685264719873, 396947166314365574520353325057, 719423018878967480322, 202500211315412020332054192257499139, 1461501637330902921293585588642678159149090471940, 680564733841879345497812307425783447556, 680564733841880554423632203529934864388, 680564733841878136571993255746562162692], [340282366920940882034436855569085104132, 79228162551168803265054769157, 340282366920942090960256470198259810308, 79228162569615547338764320773, 340282366920939673108617240939910397956, 79228162532722059191345217541, 12340871785315984998402, 3473698968970706884137845670692257795], [95780971304118057121095024335047465294652047590686724, 2923003274661805889411788935924600639478678159364, 5192376086709701211397479567720453, 1461523938079580288355877256688490465393433903108, 1461523938416383868830636134325122436468597325828, 680569926217966054479600686026383687684, 680569926217967263405420582130535104516, 680569926217964845553781634347162402820], [340287559297027591016225234169685344260, 158457533991430366198077849605, 340287559297028799942044848798860050436, 158457534009877110271787401221, 340287559297026382090405619540510638084, 158457533972983622124368297989, 5192376086709719658141553277272069, 1461523938079585529695715515383906900602230145028]]
noncomputable def vd_812_0_1 : List (List Nat) := [[95782432828056133232925751079855965063706979128573956, 2923025575747286787114284156656909673067100241924, 10384752173407079997753716859994117, 2923047876155692121776420694778303194403530866692, 1461546239501864766533172458535298367448959418372, 680575118594052751858387042263675961348, 680575118594053960784206938367827378180, 680575118594051542932567990584454676484], [340292751673114288395011590406977617924, 237686905431514881370749927429, 340292751673115497320831205036152324100, 237686905449961625444459479045, 340292751673113079469191975777802911748, 237686905413068137297040375813, 10384752173407098444497790569545733, 2923047876155697360422460323883675955533768032260], [95783894351994209344756477824664464832761910666461188, 2923047876832767684816779377389218706655522324484, 15577128260104458784109954152267781, 4384571814231803955196964132868115923413627830276, 1461568540587345664235708782745474298429321510916, 680580310970139449237173398500968235012, 680580310970140658162993294605119651844, 680580310970138240311354346821746950148], [340297944049200985773797946644269891588, 316916276871599396543422005253, 340297944049202194699617561273444597764, 316916276890046140617131556869, 340297944049199776847978332015095185412, 316916276853152652469712453637, 15577128260104477230854027861819397, 4384571814231809191149205132383445010465305919492], [95785355875932285456587204569472964601816842204348420, 2923070177918248582519274598121527740243944407044, 20769504346801837570466191444541445, 5846095752307915788617507570957928652423724793860, 1461590841672826561938245106955650229409683603460, 680585503346226146615959754738260508676, 680585503346227355541779650842411925508, 680585503346224937690140703059039223812], [340303136425287683152584302881562165252, 396145648311683911716094083077, 340303136425288892078403917510736871428, 396145648330130655789803634693, 340303136425286474226764688252387459076, 396145648293237167642384531461, 20769504346801856017210265154093061, 5846095752307921021875949940883214065396843806724], [95786817399870361568417931314281464370871773742235652, 2923092479003729480221769818853836773832366489604, 25961880433499216356822428736815109, 7307619690384027622038051009047741381433821757444, 1461613142758307459640781431165826160390045696004, 680590695722312843994746110975552782340, 680590695722314052920566007079704199172, 680590695722311635068927059296331497476], [340308328801374380531370659118854438916, 475375019751768426888766160901, 340308328801375589457190273748029145092, 475375019770215170962475712517, 340308328801373171605551044489679732740, 475375019733321682815056609285, 25961880433499234803566502446366725, 7307619690384032852602694749382983120328381693956]]
noncomputable def vd_812_0_2 : List (List Nat) := [[95788278923808437680248658059089964139926705280122884, 2923114780089210377924265039586145807420788572164, 31154256520196595143178666029088773, 8769143628460139455458594447137554110443918721028, 1461635443843788357343317755376002091370407788548, 680595888098399541373532467212845056004, 680595888098400750299352363316996472836, 680595888098398332447713415533623771140], [340313521177461077910157015356146712580, 554604391191852942061438238725, 340313521177462286835976629985321418756, 554604391210299686135147790341, 340313521177459868984337400726972006404, 554604391173406197987728687109, 31154256520196613589922739738640389, 8769143628460144683329439557882752175259919581188], [95789740447746513792079384803898463908981636818010116, 2923137081174691275626760260318454841009210654724, 36346632606893973929534903321362437, 10230667566536251288879137885227366839454015684612, 1461657744929269255045854079586178022350769881092, 680601080474486238752318823450137329668, 680601080474487447678138719554288746500, 680601080474485029826499771770916044804], [340318713553547775288943371593438986244, 633833762631937457234110316549, 340318713553548984214762986222613692420, 633833762650384201307819868165, 340318713553546566363123756964264280068, 633833762613490713160400764933, 36346632606893992376278977030914053, 10230667566536256514056184366382521230191457468420], [95791201971684589903910111548706963678036568355897348, 2923159382260172173329255481050763874597632737284, 41539008693591352715891140613636101, 11692191504612363122299681323317179568464112648196, 1461680046014750152748390403796353953331131973636, 680606272850572936131105179687429603332, 680606272850574145056925075791581020164, 680606272850571727205286128008208318468], [340323905929634472667729727830731259908, 713063134072021972406782394373, 340323905929635681593549342459905966084, 713063134090468716480491945989, 340323905929633263741910113201556553732, 713063134053575228333072842757, 41539008693591371162635214323187717, 11692191504612368344782929174882290285122995355652], [95792663495622666015740838293515463447091499893784580, 2923181683345653071031750701783072908186054819844, 46731384780288731502247377905909765, 13153715442688474955720224761406992297474209611780, 1461702347100231050450926728006529884311494066180, 680611465226659633509891535924721876996, 680611465226660842435711432028873293828, 680611465226658424584072484245500592132], [340329098305721170046516084068023533572, 792292505512106487579454472197, 340329098305722378972335698697198239748, 792292505530553231653164023813, 340329098305719961120696469438848827396, 792292505493659743505744920581, 46731384780288344120621830005325829, 13153715442688365944978786217174231669135290400772]]
noncomputable def vd_812_0_3 : List (List Nat) := [[95794125019560742013341034150557755388475512188829700, 2923203984431133966991226347201566514716509995012, 51923760866986091841859541488631813, 14615239380764581596843909664669176495987977355268, 1461724648185711948074234889702441477698312208388, 680616657602746330870231148088304599044, 680616657602747539796051044192456015876, 680616657602745121944412096409083314180], [340334290681807867406855696231606255620, 871521876952190721277149839365, 340334290681809076332675310860780961796, 871521876970637465350859390981, 340334290681806658481036081602431549444, 871521876933743977203440287749, 51923760866986110288603615198183429, 14615239380764586813939560257054199864489741910020], [95795586543498818234209994924597635356670866640338948, 2923226285516614866357512980733426637769355034628, 57116136953683470628215778780905477, 16076763318840693430264453102758989224998074318852, 1461746949271192845776771213912617408678674300932, 680621849978833028249017504325596872708, 680621849978834237174837400429748289540, 680621849978831819323198452646375587844], [340339483057894564785642052468898529284, 950751248392275236449821917189, 340339483057895773711461667098073235460, 950751248410721980523531468805, 340339483057893355859822437839723823108, 950751248373828492376112365573, 57116136953683489074959852490457093, 16076763318840698644666305065553968919421279797252], [95797048067436894346040721669406135125725798178226180, 2923248586602095764060008201465735671357777117188, 62308513040380849414572016073179141, 17538287256916805263684996540848801954008171282436, 1461769250356673743479307538122793339659036393476, 680627042354919725627803860562889146372, 680627042354920934553623756667040563204, 680627042354918516701984808883667861508], [340344675433981262164428408706190802948, 1029980619832359751622493995013, 340344675433982471090248023335365509124, 1029980619850806495696203546629, 340344675433980053238608794077016096772, 1029980619813913007548784443397, 62308513040380867861316089782730757, 17538287256916810475393049874053737974352817684484], [95798509591374970457871448414214634894780729716113412, 2923270887687576661762503422198044704946199199748, 67500889127078228200928253365452805, 18999811194992917097105539978938614683018268246020, 1461791551442154641181843862332969270639398486020, 680632234731006423006590216800181420036, 680632234731007631932410112904332836868, 680632234731005214080771165120960135172], [340349867810067959543214764943483076612, 1109209991272444266795166072837, 340349867810069168469034379572657782788, 1109209991290891010868875624453, 340349867810066750617395150314308370436, 1109209991253997522721456521221, 67500889127078246647672327075004421, 18999811194992922306119794682553507029284355571716]]
noncomputable def vd_812_0_4 : List (List Nat) := [[95799971115313046569702175159023134663835661254000644, 2923293188773057559464998642930353738534621282308, 72693265213775606987284490657726469, 20461335133069028930526083417028427412028365209604, 1461813852527635538884380186543145201619760578564, 680637427107093120385376573037473693700, 680637427107094329311196469141625110532, 680637427107091911459557521358252408836], [340355060186154656922001121180775350276, 1188439362712528781967838150661, 340355060186155865847820735809950056452, 1188439362730975526041547702277, 340355060186153447996181506551600644100, 1188439362694082037894128599045, 72693265213775625434028564367278085, 20461335133069034136846539491053276084215893458948], [95801432639251122681532901903831634432890592791887876, 2923315489858538457167493863662662772123043364868, 77885641300472985773640727950000133, 21922859071145140763946626855118240141038462173188, 1461836153613116436586916510753321132600122671108, 680642619483179817764162929274765967364, 680642619483181026689982825378917384196, 680642619483178608838343877595544682500], [340360252562241354300787477418067623940, 1267668734152613297140510228485, 340360252562242563226607092047242330116, 1267668734171060041214219780101, 340360252562240145374967862788892917764, 1267668734134166553066800676869, 77885641300473004220384801659551749, 21922859071145145967573284299553045139147431346180], [95802894163189198793363628648640134201945524329775108, 2923337790944019354869989084394971805711465447428, 83078017387170364559996965242273797, 23384383009221252597367170293208052870048559136772, 1461858454698597334289452834963497063580484763652, 680647811859266515142949285512058241028, 680647811859267724068769181616209657860, 680647811859265306217130233832836956164], [340365444938328051679573833655359897604, 1346898105592697812313182306309, 340365444938329260605393448284534603780, 1346898105611144556386891857925, 340365444938326842753754219026185191428, 1346898105574251068239472754693, 83078017387170383006741038951825413, 23384383009221257798300029108052814194078969233412], [95804355687127274905194355393448633971000455867662340, 2923360092029500252572484305127280839299887529988, 88270393473867743346353202534547461, 24845906947297364430787713731297865599058656100356, 1461880755784078231991989159173672994560846856196, 680653004235353212521735641749350514692, 680653004235354421447555537853501931524, 680653004235352003595916590070129229828], [340370637314414749058360189892652171268, 1426127477032782327485854384133, 340370637314415957984179804521826877444, 1426127477051229071559563935749, 340370637314413540132540575263477465092, 1426127477014335583412144832517, 88270393473867761793097276244099077, 24845906947297369629026773916552583249010507120644]]
noncomputable def vd_812_0_5 : List (List Nat) := [[95805817211065351017025082138257133740055387405549572, 2923382393114981150274979525859589872888309612548, 93462769560565122132709439826821125, 26307430885373476264208257169387678328068753063940, 1461903056869559129694525483383848925541208948740, 680658196611439909900521997986642788356, 680658196611441118826341894090794205188, 680658196611438700974702946307421503492], [340375829690501446437146546129944444932, 1505356848472866842658526461957, 340375829690502655362966160759119151108, 1505356848491313586732236013573, 340375829690500237511326931500769738756, 1505356848454420098584816910341, 93462769560565140579453513536372741, 26307430885373481459753518725052352303942045007876], [95807278735003427128855808883065633509110318943436804, 2923404694200462047977474746591898906476731695108, 98655145647262500919065677119094789, 27768954823449588097628800607477491057078850027524, 1461925357955040027397061807594024856521571041284, 680663388987526607279308354223935062020, 680663388987527816205128250328086478852, 680663388987525398353489302544713777156], [340381022066588143815932902367236718596, 1584586219912951357831198539781, 340381022066589352741752516996411424772, 1584586219931398101904908091397, 340381022066586934890113287738062012420, 1584586219894504613757488988165, 98655145647249495964493711885205509, 27768954823445927528977368525667622627538175524868], [95808740258941499574925191190400203127723731336560644, 44607955860686384426038984051661439162646532, 1584587428801679044454373130245, 350488137404776448006, 1209276307752033951154182, 2418202127366663125860358, 3627127946981292300566534, 4836053766595921475272710], [92239068393105260550, 680663388987526594274353782258701172740, 680663388987527803200173678362852589572, 680663388987525385348534730579479887876, 340381022066588130810978330402002829316, 1584586219912752917972617527301, 340381022066589339736797945031177535492, 1584586219931199662046327078917], [340381022066586921885158715772828123140, 1584586219894306173898907975685, 332041393331066896390, 1209257861007960241602566, 2418183680622589416308742, 3627109500237218591014918, 4836035319851847765721094, 92238786918128549894], [44607615573127325936449553926974283205050372, 44607615573127405164612105085362974121525252, 44607615573127246708287113450738884406149124, 22306870374596702794913780313249275640283140, 1505356848472867405608479883269, 1505356848472668965749898870789, 22306870374596782023076294577586869184233476, 1505356848491314149682189434885]]
noncomputable def vd_812_0_6 : List (List Nat) := [[1505356848491115709823608422405, 22306870374596623566751266048911682096332804, 1505356848454420661534770331653, 1505356848454222221676189319173, 313594649257357344774, 1209239414263886532050950, 2418165233878515706757126, 3627091053493144881463302], [4836016873107774056169478, 92238505443151839238, 44607275285568108137033411284607096758206468, 44607275285568187365195962442995787674681348, 44607275285568028908870970808371697959305220, 22306530087037484995497637670882089193439236, 1426127477032782890435807805445, 1426127477032783171910784516101], [22306530087037564223660151935219682737389572, 1426127477051229634509517357061, 1426127477051229915984494067717, 22306530087037405767335123406544495649488900, 1426127477014336146362098253829, 1426127477014336427837074964485, 295147905183647793158, 1209220967519812822499334], [2418146787134441997205510, 3627072606749071171911686, 4835998426363700346617862, 92238223968175128582, 44606934998008890337617268642239910311362564, 44606934998008969565779819800628601227837444, 44606934998008811109454828166004511512461316, 22306189799478267196081495028514902746595332], [1346898105592698375263135727621, 1346898105592698656738112438277, 22306189799478346424244009292852496290545668, 1346898105611145119336845279237, 1346898105611145400811821989893, 22306189799478187967918980764177309202644996, 1346898105574251631189426176005, 1346898105574251912664402886661], [276701161109938241542, 1209202520775739112947718, 2418128340390368287653894, 3627054160004997462360070, 4835979979619626637066246, 92237942493198417926, 44606594710449672538201125999872723864518660, 44606594710449751766363677158261414780993540], [44606594710449593310038685523637325065617412, 22305849511919049396665352386147716299751428, 1267668734152613860090463649797, 1267668734152614141565440360453, 22305849511919128624827866650485309843701764, 1267668734171060604164173201413, 1267668734171060885639149912069, 22305849511918970168502838121810122755801092], [1267668734134167116016754098181, 1267668734134167397491730808837, 258254417036228689926, 1209184074031665403396102, 2418109893646294578102278, 3627035713260923752808454, 4835961532875552927514630, 92237661018221707270]]
noncomputable def vd_812_0_7 : List (List Nat) := [[44606254422890454738784983357505537417674756, 44606254422890533966947534515894228334149636, 44606254422890375510622542881270138618773508, 22305509224359831597249209743780529852907524, 1188439362712529344917791571973, 1188439362712529626392768282629, 22305509224359910825411724008118123396857860, 1188439362730976088991501123589], [1188439362730976370466477834245, 22305509224359752369086695479442936308957188, 1188439362694082600844082020357, 1188439362694082882319058731013, 239807672962519138310, 1209165627287591693844486, 2418091446902220868550662, 3627017266516850043256838], [4835943086131479217963014, 92237379543244996614, 44605914135331236939368840715138350970830852, 44605914135331316167531391873527041887305732, 44605914135331157711206400238902952171929604, 22305168936800613797833067101413343406063620, 1109209991272444829745119494149, 1109209991272445111220096204805], [22305168936800693025995581365750936950013956, 1109209991290891573818829045765, 1109209991290891855293805756421, 22305168936800534569670552837075749862113284, 1109209991253998085671409942533, 1109209991253998367146386653189, 221360928888809586694, 1209147180543517984292870], [2418073000158147158999046, 3626998819772776333705222, 4835924639387405508411398, 92237098068268285958, 44605573847772019139952698072771164523986948, 44605573847772098368115249231159855440461828, 44605573847771939911790257596535765725085700, 22304828649241395998416924459046156959219716], [1029980619832360314572447416325, 1029980619832360596047424126981, 22304828649241475226579438723383750503170052, 1029980619850807058646156967941, 1029980619850807340121133678597, 22304828649241316770254410194708563415269380, 1029980619813913570498737864709, 1029980619813913851973714575365], [202914184815100035078, 1209128733799444274741254, 2418054553414073449447430, 3626980373028702624153606, 4835906192643331798859782, 92236816593291575302, 44605233560212801340536555430403978077143044, 44605233560212880568699106588792668993617924], [44605233560212722112374114954168579278241796, 22304488361682178199000781816678970512375812, 950751248392275799399775338501, 950751248392276080874752049157, 22304488361682257427163296081016564056326148, 950751248410722543473484890117, 950751248410722824948461600773, 22304488361682098970838267552341376968425476]]
noncomputable def vd_812_0 : List (List (List Nat)) := [vd_812_0_0, vd_812_0_1, vd_812_0_2, vd_812_0_3, vd_812_0_4, vd_812_0_5, vd_812_0_6, vd_812_0_7]
noncomputable def vd_812_1_0 : List (List Nat) := [[950751248373829055326065786885, 950751248373829336801042497541, 184467440741390483462, 1209110287055370565189638, 2418036106669999739895814, 3626961926284628914601990, 4835887745899258089308166, 92236535118314864646], [44604893272653583541120412788036791630299140, 44604893272653662769282963946425482546774020, 44604893272653504312957972311801392831397892, 22304148074122960399584639174311784065531908, 871521876952191284227103260677, 871521876952191565702079971333, 22304148074123039627747153438649377609482244, 871521876970638028300812812293], [871521876970638309775789522949, 22304148074122881171422124909974190521581572, 871521876933744540153393709061, 871521876933744821628370419717, 166020696667680931846, 1209091840311296855638022, 2418017659925926030344198, 3626943479540555205050374], [4835869299155184379756550, 92236253643338153990, 44604552985094365716316827933762392514625540, 44604552985094444944479379092151083431100420, 44604552985094286488154387457526993715724292, 22303807786563742574781054320037384949858308, 792292505512106769054431182853, 792292505512107050529407893509], [22303807786563821802943568584374978493808644, 792292505530553513128140734469, 792292505530553794603117445125, 22303807786563663346618540055699791405907972, 792292505493660024980721631237, 792292505493660306455698341893, 147573952593971380230, 1209073393567223146086406], [2417999213181852320792582, 3626925032796481495498758, 4835850852411110670204934, 92235972168361443334, 44604212697535147943497053322917047911317508, 44604212697535227171659604481305738827792388, 44604212697535068715334612846681649112416260, 22303467499004524801961279709192040346550276], [713063134072022535356735815685, 713063134072016624382224891909, 22303467499004604030123793973529633890500612, 713063134090469279430445367301, 713063134090463368455934443525, 22303467499004445573798765444854446802599940, 713063134053575791283026264069, 713063134053569880308515340293], [129127208520261828614, 1209054946823149436534790, 2417980766437778611240966, 3626906586052407785947142, 4835832405667036960653318, 92235690693384732678, 44603872409975930144080910680549861464473604, 44603872409976009372243461838938552380948484]]
noncomputable def vd_812_1_1 : List (List Nat) := [[44603872409975850915918470204314462665572356, 22303127211445307002545137066824853899706372, 633833762631938020184063737861, 633833762631938301659040448517, 22303127211445386230707651331162447443656708, 633833762650384764257773289477, 633833762650385045732750000133, 22303127211445227774382622802487260355756036], [633833762613491276110354186245, 633833762613491557585330896901, 110680464446552276998, 1209036500079075726983174, 2417962319693704901689350, 3626888139308334076395526, 4835813958922963251101702, 92235409218408022022], [44603532122416712344664768038182675017629700, 44603532122416791572827319196571365934104580, 44603532122416633116502327561947276218728452, 22302786923886089203128994424457667452862468, 554604391191853505011391660037, 554604391191853786486368370693, 22302786923886168431291508688795260996812804, 554604391210300249085101211653], [554604391210300530560077922309, 22302786923886009974966480160120073908912132, 554604391173406760937682108421, 554604391173407042412658819077, 92233720372842725382, 1209018053335002017431558, 2417943872949631192137734, 3626869692564260366843910], [4835795512178889541550086, 92235127743431311366, 44603191834857494545248625395815488570785796, 44603191834857573773411176554204179487260676, 44603191834857415317086184919580089771884548, 22302446636326871403712851782090481006018564, 475375019751768989838719582213, 475375019751769271313696292869], [22302446636326950631875366046428074549968900, 475375019770215733912429133829, 475375019770216015387405844485, 22302446636326792175550337517752887462068228, 475375019733322245765010030597, 475375019733322527239986741253, 73786976299133173766, 1208999606590928307879942], [2417925426205557482586118, 3626851245820186657292294, 4835777065434815831998470, 92234846268454600710, 44602851547298276745832482753448302123941892, 44602851547298355973995033911836993040416772, 44602851547298197517670042277212903325040644, 22302106348767653604296709139723294559174660], [396145648311684474666047504389, 396145648311684756141024215045, 22302106348767732832459223404060888103124996, 396145648330131218739757056005, 396145648330131500214733766661, 22302106348767574376134194875385701015224324, 396145648293237730592337952773, 396145648293238012067314663429]]
noncomputable def vd_812_1_2 : List (List Nat) := [[55340232225423622150, 1208981159846854598328326, 2417906979461483773034502, 3626832799076112947740678, 4835758618690742122446854, 92234564793477890054, 44602511259739058946416340111081115677097988, 44602511259739138174578891269469806593572868], [44602511259738979718253899634845716878196740, 22301766061208435804880566497356108112330756, 316916276871599959493375426565, 316916276871600240968352137221, 22301766061208515033043080761693701656281092, 316916276890046703567084978181, 316916276890046985042061688837, 22301766061208356576718052233018514568380420], [316916276853153215419665874949, 316916276853153496894642585605, 36893488151714070534, 1208962713102780888776710, 2417888532717410063482886, 3626814352332039238189062, 4835740171946668412895238, 92234283318501179398], [44602170972179841147000197468713929230254084, 44602170972179920375162748627102620146728964, 44602170972179761918837756992478530431352836, 22301425773649218005464423854988921665486852, 237686905431515444320703348741, 237686905431515725795680059397, 22301425773649297233626938119326515209437188, 237686905449962188394412900357], [237686905449962469869389611013, 22301425773649138777301909590651328121536516, 237686905413068700246993797125, 237686905413068981721970507781, 18446744078004518918, 1208944266358707179225094, 2417870085973336353931270, 3626795905587965528637446], [4835721725202594703343622, 92234001843524468742, 44601830684620623347584054826346742783410180, 44601830684620702575746605984735433699885060, 44601830684620544119421614350111343984508932, 22301085486090000206048281212621735218642948, 158457533991430929148031270917, 158457533991431210623007981573], [22301085486090079434210795476959328762593284, 158457534009877673221740822533, 158457534009877954696717533189, 22301085486089920977885766948284141674692612, 158457533972984185074321719301, 158457533972984466549298429957, 4294967302, 1208925819614633469673478], [2417851639229262644379654, 3626777458843891819085830, 4835703278458520993792006, 92233720368547758086, 44601490397061405548167912183979556336566276, 44601490397061484776330463342368247253041156, 44601490397061326320005471707744157537665028, 22300745198530782406632138570254548771799044]]
noncomputable def vd_812_1_3 : List (List Nat) := [[79228162551346413975359193093, 79228162551346695450335903749, 22300745198530861634794652834592142315749380, 79228162569793158049068744709, 79228162569793439524045455365, 22300745198530703178469624305916955227848708, 79228162532899669901649641477, 79228162532899951376626352133], [805156900029665479067959296, 802739029943692147008995328, 52687533228904072883979356733440, 12285531553094856343553, 1221211351167724031049729, 2430137170782353205755905, 3639062990396982380462081, 4847988810011611555168257], [6056914629626240729874433, 12285531553094856343554, 52765961070240220783977273753603, 340282366920940893600545389784973967364, 79228162551345288075452350469, 340282366920942102526365004414148673540, 79228162569792032149161902085, 340282366920939684674725775155799261188], [79228162532898544001742798853, 805156881582921405358407680, 802738974602896975926919168, 803947900422511605101625344, 805156826242126234276331520, 802739048389873270765125632, 803947974209487899939831808, 805156900029102529114537984], [802739029943129197055574016, 803947955762743826230280192, 805156881582358455404986368]]
noncomputable def vd_812_1 : List (List (List Nat)) := [vd_812_1_0, vd_812_1_1, vd_812_1_2, vd_812_1_3]
noncomputable def vd_812 : List (List (List (List Nat))) := [vd_812_0, vd_812_1]
noncomputable def vt_812 : List (List am_I) := [[(.ofNat 4, .ofNat 2147483647), (.ofNat 40, .ofNat 2147483647), (.ofNat 21, .ofNat 2147483647), (.ofNat 0, .ofNat 20), (.negSucc 2147483647, .negSucc 0), (.ofNat 0, .ofNat 39), (.ofNat 0, .ofNat 3), (.ofNat 0, .ofNat 38)], [(.ofNat 37, .ofNat 38), (.ofNat 0, .ofNat 36), (.ofNat 35, .ofNat 36), (.ofNat 0, .ofNat 34), (.ofNat 33, .ofNat 34), (.ofNat 0, .ofNat 32), (.ofNat 31, .ofNat 32), (.ofNat 0, .ofNat 30)], [(.ofNat 29, .ofNat 30), (.ofNat 0, .ofNat 28), (.ofNat 27, .ofNat 28), (.ofNat 0, .ofNat 26), (.ofNat 25, .ofNat 26), (.ofNat 0, .ofNat 24), (.ofNat 23, .ofNat 24), (.ofNat 0, .ofNat 22)], [(.ofNat 21, .ofNat 22), (.ofNat 19, .ofNat 20), (.ofNat 0, .ofNat 18), (.ofNat 17, .ofNat 18), (.ofNat 0, .ofNat 16), (.ofNat 15, .ofNat 16), (.ofNat 0, .ofNat 14), (.ofNat 13, .ofNat 14)], [(.ofNat 0, .ofNat 12), (.ofNat 11, .ofNat 12), (.ofNat 0, .ofNat 10), (.ofNat 9, .ofNat 10), (.ofNat 0, .ofNat 8), (.ofNat 7, .ofNat 8), (.ofNat 0, .ofNat 6), (.ofNat 5, .ofNat 6)], [(.ofNat 0, .ofNat 4), (.ofNat 3, .ofNat 4), (.ofNat 0, .ofNat 2), (.ofNat 1, .ofNat 2)]]
noncomputable def vc_812 : vm_C := (fun _ => vp_812, fun pc => (match Nat.beq pc 0 with
  | true => [(fun _ _ => some (.inl 1), fun _ _ => some [.ofNat 0, .ofNat 4]), (fun _ _ => some (.inl 3), fun _ _ => some [.ofNat 0, .ofNat 40]), (fun _ _ => some (.inl 4), fun _ _ => some [.ofNat 0, .ofNat 21])]
  | false => (match Nat.beq pc 63 with
  | true => [(fun _ _ => some (.inl 3), fun lv _ => match lv.lookup 7 with
    | some (.inl b) => some [(39 : Int) + ((-2) : Int) * b.1]
    | _ => some [])]
  | false => [])), [26, 63, 78, 209], 739, vm_inst 16 662 vt_812 vf_812 vd_812)
theorem vx_812_0 : vm_chk bt_222 [] vk_812 48 vc_812 0 15 = true := by decide +kernel
theorem vx_812_1 : vm_chk bt_222 [] vk_812 48 vc_812 15 11 = true := by decide +kernel
theorem vx_812_2 : vm_chk bt_222 [] vk_812 48 vc_812 26 10 = true := by decide +kernel
theorem vx_812_3 : vm_chk bt_222 [] vk_812 48 vc_812 36 12 = true := by decide +kernel
theorem vx_812_4 : vm_chk bt_222 [] vk_812 48 vc_812 48 5 = true := by decide +kernel
theorem vx_812_5 : vm_chk bt_222 [] vk_812 48 vc_812 53 12 = true := by decide +kernel
theorem vx_812_6 : vm_chk bt_222 [] vk_812 48 vc_812 65 8 = true := by decide +kernel
theorem vx_812_7 : vm_chk bt_222 [] vk_812 48 vc_812 73 8 = true := by decide +kernel
theorem vx_812_8 : vm_chk bt_222 [] vk_812 48 vc_812 81 8 = true := by decide +kernel
theorem vx_812_9 : vm_chk bt_222 [] vk_812 48 vc_812 89 8 = true := by decide +kernel
theorem vx_812_10 : vm_chk bt_222 [] vk_812 48 vc_812 97 8 = true := by decide +kernel
theorem vx_812_11 : vm_chk bt_222 [] vk_812 48 vc_812 105 8 = true := by decide +kernel
theorem vx_812_12 : vm_chk bt_222 [] vk_812 48 vc_812 113 8 = true := by decide +kernel
theorem vx_812_13 : vm_chk bt_222 [] vk_812 48 vc_812 121 8 = true := by decide +kernel
theorem vx_812_14 : vm_chk bt_222 [] vk_812 48 vc_812 129 8 = true := by decide +kernel
theorem vx_812_15 : vm_chk bt_222 [] vk_812 48 vc_812 137 8 = true := by decide +kernel
theorem vx_812_16 : vm_chk bt_222 [] vk_812 48 vc_812 145 8 = true := by decide +kernel
theorem vx_812_17 : vm_chk bt_222 [] vk_812 48 vc_812 153 8 = true := by decide +kernel
theorem vx_812_18 : vm_chk bt_222 [] vk_812 48 vc_812 161 8 = true := by decide +kernel
theorem vx_812_19 : vm_chk bt_222 [] vk_812 48 vc_812 169 8 = true := by decide +kernel
theorem vx_812_20 : vm_chk bt_222 [] vk_812 48 vc_812 177 8 = true := by decide +kernel
theorem vx_812_21 : vm_chk bt_222 [] vk_812 48 vc_812 185 8 = true := by decide +kernel
theorem vx_812_22 : vm_chk bt_222 [] vk_812 48 vc_812 193 8 = true := by decide +kernel
theorem vx_812_23 : vm_chk bt_222 [] vk_812 48 vc_812 201 8 = true := by decide +kernel
theorem vx_812_24 : vm_chk bt_222 [] vk_812 48 vc_812 209 8 = true := by decide +kernel
theorem vx_812_25 : vm_chk bt_222 [] vk_812 48 vc_812 217 8 = true := by decide +kernel
theorem vx_812_26 : vm_chk bt_222 [] vk_812 48 vc_812 225 8 = true := by decide +kernel
theorem vx_812_27 : vm_chk bt_222 [] vk_812 48 vc_812 233 8 = true := by decide +kernel
theorem vx_812_28 : vm_chk bt_222 [] vk_812 48 vc_812 241 8 = true := by decide +kernel
theorem vx_812_29 : vm_chk bt_222 [] vk_812 48 vc_812 249 8 = true := by decide +kernel
theorem vx_812_30 : vm_chk bt_222 [] vk_812 48 vc_812 257 8 = true := by decide +kernel
theorem vx_812_31 : vm_chk bt_222 [] vk_812 48 vc_812 265 8 = true := by decide +kernel
theorem vx_812_32 : vm_chk bt_222 [] vk_812 48 vc_812 273 8 = true := by decide +kernel
theorem vx_812_33 : vm_chk bt_222 [] vk_812 48 vc_812 281 8 = true := by decide +kernel
theorem vx_812_34 : vm_chk bt_222 [] vk_812 48 vc_812 289 8 = true := by decide +kernel
theorem vx_812_35 : vm_chk bt_222 [] vk_812 48 vc_812 297 8 = true := by decide +kernel
theorem vx_812_36 : vm_chk bt_222 [] vk_812 48 vc_812 305 8 = true := by decide +kernel
theorem vx_812_37 : vm_chk bt_222 [] vk_812 48 vc_812 313 8 = true := by decide +kernel
theorem vx_812_38 : vm_chk bt_222 [] vk_812 48 vc_812 321 8 = true := by decide +kernel
theorem vx_812_39 : vm_chk bt_222 [] vk_812 48 vc_812 329 8 = true := by decide +kernel
theorem vx_812_40 : vm_chk bt_222 [] vk_812 48 vc_812 337 8 = true := by decide +kernel
theorem vx_812_41 : vm_chk bt_222 [] vk_812 48 vc_812 345 9 = true := by decide +kernel
theorem vx_812_42 : vm_chk bt_222 [] vk_812 48 vc_812 354 14 = true := by decide +kernel
theorem vx_812_43 : vm_chk bt_222 [] vk_812 48 vc_812 368 14 = true := by decide +kernel
theorem vx_812_44 : vm_chk bt_222 [] vk_812 48 vc_812 382 13 = true := by decide +kernel
theorem vx_812_45 : vm_chk bt_222 [] vk_812 48 vc_812 395 13 = true := by decide +kernel
theorem vx_812_46 : vm_chk bt_222 [] vk_812 48 vc_812 408 14 = true := by decide +kernel
theorem vx_812_47 : vm_chk bt_222 [] vk_812 48 vc_812 422 13 = true := by decide +kernel
theorem vx_812_48 : vm_chk bt_222 [] vk_812 48 vc_812 435 12 = true := by decide +kernel
theorem vx_812_49 : vm_chk bt_222 [] vk_812 48 vc_812 447 14 = true := by decide +kernel
theorem vx_812_50 : vm_chk bt_222 [] vk_812 48 vc_812 461 14 = true := by decide +kernel
theorem vx_812_51 : vm_chk bt_222 [] vk_812 48 vc_812 475 13 = true := by decide +kernel
theorem vx_812_52 : vm_chk bt_222 [] vk_812 48 vc_812 488 12 = true := by decide +kernel
theorem vx_812_53 : vm_chk bt_222 [] vk_812 48 vc_812 500 14 = true := by decide +kernel
theorem vx_812_54 : vm_chk bt_222 [] vk_812 48 vc_812 514 13 = true := by decide +kernel
theorem vx_812_55 : vm_chk bt_222 [] vk_812 48 vc_812 527 13 = true := by decide +kernel
theorem vx_812_56 : vm_chk bt_222 [] vk_812 48 vc_812 540 13 = true := by decide +kernel
theorem vx_812_57 : vm_chk bt_222 [] vk_812 48 vc_812 553 14 = true := by decide +kernel
theorem vx_812_58 : vm_chk bt_222 [] vk_812 48 vc_812 567 13 = true := by decide +kernel
theorem vx_812_59 : vm_chk bt_222 [] vk_812 48 vc_812 580 13 = true := by decide +kernel
theorem vx_812_60 : vm_chk bt_222 [] vk_812 48 vc_812 593 13 = true := by decide +kernel
theorem vx_812_61 : vm_chk bt_222 [] vk_812 48 vc_812 606 14 = true := by decide +kernel
theorem vx_812_62 : vm_chk bt_222 [] vk_812 48 vc_812 620 13 = true := by decide +kernel
theorem vx_812_63 : vm_chk bt_222 [] vk_812 48 vc_812 633 12 = true := by decide +kernel
theorem vx_812_64 : vm_chk bt_222 [] vk_812 48 vc_812 645 14 = true := by decide +kernel
theorem vx_812_65 : vm_chk bt_222 [] vk_812 48 vc_812 659 14 = true := by decide +kernel
theorem vx_812_66 : vm_chk bt_222 [] vk_812 48 vc_812 673 13 = true := by decide +kernel
theorem vx_812_67 : vm_chk bt_222 [] vk_812 48 vc_812 686 12 = true := by decide +kernel
theorem vx_812_68 : vm_chk bt_222 [] vk_812 48 vc_812 698 14 = true := by decide +kernel
theorem vx_812_69 : vm_chk bt_222 [] vk_812 48 vc_812 712 11 = true := by decide +kernel
theorem vx_812_70 : vm_chk bt_222 [] vk_812 48 vc_812 723 16 = true := by decide +kernel
theorem vy_812 : vm_ents 222 48 vc_812 ve_812 = true := by decide +kernel
theorem vgr_812_0 (i : Nat) : i < 337 → ∃ lo k, lo ≤ i ∧ i < lo + k ∧ vm_chk bt_222 [] vk_812 48 vc_812 lo k = true := vm_hc vx_812_39 rfl (vm_hc vx_812_38 rfl (vm_hc vx_812_37 rfl (vm_hc vx_812_36 rfl (vm_hc vx_812_35 rfl (vm_hc vx_812_34 rfl (vm_hc vx_812_33 rfl (vm_hc vx_812_32 rfl (vm_hc vx_812_31 rfl (vm_hc vx_812_30 rfl (vm_hc vx_812_29 rfl (vm_hc vx_812_28 rfl (vm_hc vx_812_27 rfl (vm_hc vx_812_26 rfl (vm_hc vx_812_25 rfl (vm_hc vx_812_24 rfl (vm_hc vx_812_23 rfl (vm_hc vx_812_22 rfl (vm_hc vx_812_21 rfl (vm_hc vx_812_20 rfl (vm_hc vx_812_19 rfl (vm_hc vx_812_18 rfl (vm_hc vx_812_17 rfl (vm_hc vx_812_16 rfl (vm_hc vx_812_15 rfl (vm_hc vx_812_14 rfl (vm_hc vx_812_13 rfl (vm_hc vx_812_12 rfl (vm_hc vx_812_11 rfl (vm_hc vx_812_10 rfl (vm_hc vx_812_9 rfl (vm_hc vx_812_8 rfl (vm_hc vx_812_7 rfl (vm_hc vx_812_6 rfl (vm_hc vx_812_5 rfl (vm_hc vx_812_4 rfl (vm_hc vx_812_3 rfl (vm_hc vx_812_2 rfl (vm_hc vx_812_1 rfl (vm_hc vx_812_0 rfl (fun h => absurd h (Nat.not_lt_zero _)))))))))))))))))))))))))))))))))))))))))
theorem vgr_812_1 (i : Nat) : i < 739 → ∃ lo k, lo ≤ i ∧ i < lo + k ∧ vm_chk bt_222 [] vk_812 48 vc_812 lo k = true := vm_hc vx_812_70 rfl (vm_hc vx_812_69 rfl (vm_hc vx_812_68 rfl (vm_hc vx_812_67 rfl (vm_hc vx_812_66 rfl (vm_hc vx_812_65 rfl (vm_hc vx_812_64 rfl (vm_hc vx_812_63 rfl (vm_hc vx_812_62 rfl (vm_hc vx_812_61 rfl (vm_hc vx_812_60 rfl (vm_hc vx_812_59 rfl (vm_hc vx_812_58 rfl (vm_hc vx_812_57 rfl (vm_hc vx_812_56 rfl (vm_hc vx_812_55 rfl (vm_hc vx_812_54 rfl (vm_hc vx_812_53 rfl (vm_hc vx_812_52 rfl (vm_hc vx_812_51 rfl (vm_hc vx_812_50 rfl (vm_hc vx_812_49 rfl (vm_hc vx_812_48 rfl (vm_hc vx_812_47 rfl (vm_hc vx_812_46 rfl (vm_hc vx_812_45 rfl (vm_hc vx_812_44 rfl (vm_hc vx_812_43 rfl (vm_hc vx_812_42 rfl (vm_hc vx_812_41 rfl (vm_hc vx_812_40 rfl (vgr_812_0 i)))))))))))))))))))))))))))))))
theorem vw_812 : ∀ q ∈ vk_812, vm_wt 4 q := vm_wts (vm_kc (vm_up v_810 rfl) (vm_kc (vm_up v_811 rfl) (vm_kc (vm_up v_809 rfl) (vm_kc (vm_up v_618 rfl) (vm_kc (vm_up v_808 rfl) (vm_kc (vm_up v_755 rfl) (vm_kc (vm_up v_749 rfl) vm_kn))))))) (by decide +kernel)
theorem v_812 : vm_at 5 q_812 := vm_ok (inl := []) (es := ve_812) bq_222 (by decide) vw_812 vy_812 (fun i => vgr_812_1 i) _ List.mem_cons_self
noncomputable def vp_813 : List vm_R := [(some (.inl am_top), va_h0)]
noncomputable def ve_813 : List vm_E := [([.inr (.inr (some 70))], va_h0, 0, [0])]
noncomputable def q_813 : vm_Q := (223, [.inr (.inr (some 70))], va_h0, vp_813)
noncomputable def vk_813 : List vm_U := []
noncomputable def vf_813 : List ((Nat → am_I) → vm_A) := [fun v => (0, [(0, .inr (.inr (some 70)))], [], (80, []))]
noncomputable def vd_813_0_0 : List (List Nat) := [[0]]
noncomputable def vd_813_0 : List (List (List Nat)) := [vd_813_0_0]
noncomputable def vd_813 : List (List (List (List Nat))) := [vd_813_0]
noncomputable def vt_813 : List (List am_I) := []
noncomputable def vc_813 : vm_C := (fun _ => vp_813, fun pc => [], [], 1, vm_inst 8 1 vt_813 vf_813 vd_813)
theorem vx_813_0 : vm_chk bt_223 [] vk_813 5 vc_813 0 1 = true := by decide +kernel
theorem vy_813 : vm_ents 223 5 vc_813 ve_813 = true := by decide +kernel
theorem vw_813 : ∀ q ∈ vk_813, vm_wt 1 q := vm_wts vm_kn (by decide +kernel)
theorem v_813 : vm_at 2 q_813 := vm_ok (inl := []) (es := ve_813) bq_223 (by decide) vw_813 vy_813 (fun i => vm_hc vx_813_0 rfl (fun h => absurd h (Nat.not_lt_zero _))) _ List.mem_cons_self
noncomputable def vp_814 : List vm_R := [(some (.inl (.negSucc 3, .ofNat 160)), va_h0)]
noncomputable def ve_814 : List vm_E := [([.inr (.inr (some 70)), .inl am_top], va_h0, 0, [0, 7, 14, 21, 28, 35, 42, 49, 56])]
noncomputable def q_814 : vm_Q := (224, [.inr (.inr (some 70)), .inl am_top], va_h0, vp_814)
noncomputable def vk_814 : List vm_U := [(q_521, true, []), (q_522, true, []), (q_527, true, []), (q_482, false, []), (q_559, true, []), (q_560, true, [])]
noncomputable def vf_814 : List ((Nat → am_I) → vm_A) := [fun v => (0, [(0, .inr (.inr (some 70))), (1, .inl (v 0))], [], (80, [])), fun v => (8, [(0, .inr (.inr (some 70))), (1, .inl (v 0)), (2, .inl (v 1)), (3, .inl (v 2))], [], (80, []))]
noncomputable def vd_814_0_0 : List (List Nat) := [[30064836608, 30064836609, 291400646197249, 573975134535681, 856549622874113, 1139124111212545, 5553510154241, 25769869312], [25769869313, 291396351229953, 573970839568385, 856545327906817, 1139119816245249, 5553493377025, 21474902016, 21474902017], [291392056262657, 573966544601089, 856541032939521, 1139115521277953, 5553476599809, 17179934720, 17179934721, 291387761295361], [573962249633793, 856536737972225, 1139111226310657, 5553459822593, 12884967424, 12884967425, 291383466328065, 573957954666497], [856532443004929, 1139106931343361, 5553443045377, 8590000128, 8590000129, 291379171360769, 573953659699201, 856528148037633], [1139102636376065, 5553426268161, 4295032832, 4295032833, 291374876393473, 573949364731905, 856523853070337, 1139098341408769], [5553409490945, 65536, 65537, 291370581426177, 573945069764609, 856519558103041, 1139094046441473, 5553392713729], [34359803904, 34359803905, 291404941164545, 573979429502977, 856553917841409, 1139128406179841, 5553526931457]]
noncomputable def vd_814_0 : List (List (List Nat)) := [vd_814_0_0]
noncomputable def vd_814 : List (List (List (List Nat))) := [vd_814_0]
noncomputable def vt_814 : List (List am_I) := [[(.ofNat 7, .ofNat 2147483647), (.negSucc 2147483647, .negSucc 0), (.ofNat 0, .ofNat 1), (.ofNat 0, .ofNat 2), (.ofNat 0, .ofNat 3), (.ofNat 0, .ofNat 4), (.ofNat 0, .ofNat 5)]]
noncomputable def vc_814 : vm_C := (fun _ => vp_814, fun pc => (match Nat.beq pc 0 with
  | true => [(fun _ _ => some (.inl 1), fun _ _ => some [.ofNat 0, .ofNat 1, .ofNat 2, .ofNat 3, .ofNat 4, .ofNat 5, .ofNat 6, .ofNat 7])]
  | false => []), [8], 63, vm_inst 8 7 vt_814 vf_814 vd_814)
theorem vx_814_0 : vm_chk bt_224 [] vk_814 22 vc_814 0 9 = true := by decide +kernel
theorem vx_814_1 : vm_chk bt_224 [] vk_814 22 vc_814 9 8 = true := by decide +kernel
theorem vx_814_2 : vm_chk bt_224 [] vk_814 22 vc_814 17 7 = true := by decide +kernel
theorem vx_814_3 : vm_chk bt_224 [] vk_814 22 vc_814 24 8 = true := by decide +kernel
theorem vx_814_4 : vm_chk bt_224 [] vk_814 22 vc_814 32 8 = true := by decide +kernel
theorem vx_814_5 : vm_chk bt_224 [] vk_814 22 vc_814 40 8 = true := by decide +kernel
theorem vx_814_6 : vm_chk bt_224 [] vk_814 22 vc_814 48 10 = true := by decide +kernel
theorem vx_814_7 : vm_chk bt_224 [] vk_814 22 vc_814 58 5 = true := by decide +kernel
theorem vy_814 : vm_ents 224 22 vc_814 ve_814 = true := by decide +kernel
theorem vw_814 : ∀ q ∈ vk_814, vm_wt 3 q := vm_wts (vm_kc (vm_up v_521 rfl) (vm_kc (vm_up v_522 rfl) (vm_kc (vm_up v_527 rfl) (vm_kc (vm_up v_482 rfl) (vm_kc (vm_up v_559 rfl) (vm_kc (vm_up v_560 rfl) vm_kn)))))) (by decide +kernel)
theorem v_814 : vm_at 4 q_814 := vm_ok (inl := []) (es := ve_814) bq_224 (by decide) vw_814 vy_814 (fun i => vm_hc vx_814_7 rfl (vm_hc vx_814_6 rfl (vm_hc vx_814_5 rfl (vm_hc vx_814_4 rfl (vm_hc vx_814_3 rfl (vm_hc vx_814_2 rfl (vm_hc vx_814_1 rfl (vm_hc vx_814_0 rfl (fun h => absurd h (Nat.not_lt_zero _)))))))))) _ List.mem_cons_self
noncomputable def vp_815 : List vm_R := [(some (.inl (.ofNat 0, .ofNat 6)), va_h0)]
noncomputable def ve_815 : List vm_E := [([.inr (.inr (some 70))], va_h0, 0, [0])]
noncomputable def q_815 : vm_Q := (166, [.inr (.inr (some 70))], va_h0, vp_815)
noncomputable def vk_815 : List vm_U := []
noncomputable def vf_815 : List ((Nat → am_I) → vm_A) := [fun v => (0, [(0, .inr (.inr (some 70)))], [], (80, []))]
noncomputable def vd_815_0_0 : List (List Nat) := [[0]]
noncomputable def vd_815_0 : List (List (List Nat)) := [vd_815_0_0]
noncomputable def vd_815 : List (List (List (List Nat))) := [vd_815_0]
noncomputable def vt_815 : List (List am_I) := []
noncomputable def vc_815 : vm_C := (fun _ => vp_815, fun pc => [], [], 1, vm_inst 8 1 vt_815 vf_815 vd_815)
theorem vx_815_0 : vm_chk bt_166 [] vk_815 5 vc_815 0 1 = true := by decide +kernel
theorem vy_815 : vm_ents 166 5 vc_815 ve_815 = true := by decide +kernel
theorem vw_815 : ∀ q ∈ vk_815, vm_wt 1 q := vm_wts vm_kn (by decide +kernel)
theorem v_815 : vm_at 2 q_815 := vm_ok (inl := []) (es := ve_815) bq_166 (by decide) vw_815 vy_815 (fun i => vm_hc vx_815_0 rfl (fun h => absurd h (Nat.not_lt_zero _))) _ List.mem_cons_self
noncomputable def vp_816 : List vm_R := [(some (.inl (.ofNat 0, .ofNat 0)), va_h0)]
noncomputable def ve_816 : List vm_E := [([.inr (.inl (.negSucc 2147483647, .negSucc 0)), .inr (.inl (.ofNat 0, .ofNat 0)), .inr (.inl (.ofNat 127, .ofNat 127))], va_h0, 0, [0])]
noncomputable def q_816 : vm_Q := (149, [.inr (.inl (.negSucc 2147483647, .negSucc 0)), .inr (.inl (.ofNat 0, .ofNat 0)), .inr (.inl (.ofNat 127, .ofNat 127))], va_h0, vp_816)
noncomputable def vk_816 : List vm_U := []
noncomputable def vf_816 : List ((Nat → am_I) → vm_A) := [fun v => (0, [(0, .inr (.inl (.negSucc 2147483647, .negSucc 0))), (2, .inr (.inl (.ofNat 0, .ofNat 0))), (4, .inr (.inl (.ofNat 127, .ofNat 127)))], [], (80, []))]
noncomputable def vd_816_0_0 : List (List Nat) := [[0]]
noncomputable def vd_816_0 : List (List (List Nat)) := [vd_816_0_0]
noncomputable def vd_816 : List (List (List (List Nat))) := [vd_816_0]
noncomputable def vt_816 : List (List am_I) := []
noncomputable def vc_816 : vm_C := (fun _ => vp_816, fun pc => [], [], 1, vm_inst 8 1 vt_816 vf_816 vd_816)
theorem vx_816_0 : vm_chk bt_149 [] vk_816 8 vc_816 0 1 = true := by decide +kernel
theorem vy_816 : vm_ents 149 8 vc_816 ve_816 = true := by decide +kernel
theorem vw_816 : ∀ q ∈ vk_816, vm_wt 1 q := vm_wts vm_kn (by decide +kernel)
theorem v_816 : vm_at 2 q_816 := vm_ok (inl := []) (es := ve_816) bq_149 (by decide) vw_816 vy_816 (fun i => vm_hc vx_816_0 rfl (fun h => absurd h (Nat.not_lt_zero _))) _ List.mem_cons_self
noncomputable def vp_817 : List vm_R := [(some (.inl (.ofNat 1, .ofNat 1)), va_h0)]
noncomputable def ve_817 : List vm_E := [([.inr (.inl (.ofNat 0, .ofNat 127)), .inr (.inl (.ofNat 0, .ofNat 0)), .inr (.inl (.ofNat 127, .ofNat 127))], va_h0, 0, [0])]
noncomputable def q_817 : vm_Q := (149, [.inr (.inl (.ofNat 0, .ofNat 127)), .inr (.inl (.ofNat 0, .ofNat 0)), .inr (.inl (.ofNat 127, .ofNat 127))], va_h0, vp_817)
noncomputable def vk_817 : List vm_U := []
noncomputable def vf_817 : List ((Nat → am_I) → vm_A) := [fun v => (0, [(0, .inr (.inl (.ofNat 0, .ofNat 127))), (2, .inr (.inl (.ofNat 0, .ofNat 0))), (4, .inr (.inl (.ofNat 127, .ofNat 127)))], [], (80, []))]
noncomputable def vd_817_0_0 : List (List Nat) := [[0]]
noncomputable def vd_817_0 : List (List (List Nat)) := [vd_817_0_0]
noncomputable def vd_817 : List (List (List (List Nat))) := [vd_817_0]
noncomputable def vt_817 : List (List am_I) := []
noncomputable def vc_817 : vm_C := (fun _ => vp_817, fun pc => [], [], 1, vm_inst 8 1 vt_817 vf_817 vd_817)
theorem vx_817_0 : vm_chk bt_149 [] vk_817 13 vc_817 0 1 = true := by decide +kernel
theorem vy_817 : vm_ents 149 13 vc_817 ve_817 = true := by decide +kernel
theorem vw_817 : ∀ q ∈ vk_817, vm_wt 1 q := vm_wts vm_kn (by decide +kernel)
theorem v_817 : vm_at 2 q_817 := vm_ok (inl := []) (es := ve_817) bq_149 (by decide) vw_817 vy_817 (fun i => vm_hc vx_817_0 rfl (fun h => absurd h (Nat.not_lt_zero _))) _ List.mem_cons_self
noncomputable def vp_818 : List vm_R := [(some (.inl (.ofNat 0, .ofNat 0)), va_h0)]
noncomputable def ve_818 : List vm_E := [([.inr (.inl (.ofNat 128, .ofNat 2147483647)), .inr (.inl (.ofNat 0, .ofNat 0)), .inr (.inl (.ofNat 127, .ofNat 127))], va_h0, 0, [0])]
noncomputable def q_818 : vm_Q := (149, [.inr (.inl (.ofNat 128, .ofNat 2147483647)), .inr (.inl (.ofNat 0, .ofNat 0)), .inr (.inl (.ofNat 127, .ofNat 127))], va_h0, vp_818)
noncomputable def vk_818 : List vm_U := []
noncomputable def vf_818 : List ((Nat → am_I) → vm_A) := [fun v => (0, [(0, .inr (.inl (.ofNat 128, .ofNat 2147483647))), (2, .inr (.inl (.ofNat 0, .ofNat 0))), (4, .inr (.inl (.ofNat 127, .ofNat 127)))], [], (80, []))]
noncomputable def vd_818_0_0 : List (List Nat) := [[0]]
noncomputable def vd_818_0 : List (List (List Nat)) := [vd_818_0_0]
noncomputable def vd_818 : List (List (List (List Nat))) := [vd_818_0]
noncomputable def vt_818 : List (List am_I) := []
noncomputable def vc_818 : vm_C := (fun _ => vp_818, fun pc => [], [], 1, vm_inst 8 1 vt_818 vf_818 vd_818)
theorem vx_818_0 : vm_chk bt_149 [] vk_818 12 vc_818 0 1 = true := by decide +kernel
theorem vy_818 : vm_ents 149 12 vc_818 ve_818 = true := by decide +kernel
theorem vw_818 : ∀ q ∈ vk_818, vm_wt 1 q := vm_wts vm_kn (by decide +kernel)
theorem v_818 : vm_at 2 q_818 := vm_ok (inl := []) (es := ve_818) bq_149 (by decide) vw_818 vy_818 (fun i => vm_hc vx_818_0 rfl (fun h => absurd h (Nat.not_lt_zero _))) _ List.mem_cons_self
noncomputable def vp_819 : List vm_R := [(some (.inl (.negSucc 2, .ofNat 160)), va_h0)]
noncomputable def ve_819 : List vm_E := [([.inr (.inr (some 70)), .inl am_top], va_h0, 0, [0, 1, 2, 3, 4, 5])]
noncomputable def q_819 : vm_Q := (148, [.inr (.inr (some 70)), .inl am_top], va_h0, vp_819)
noncomputable def vk_819 : List vm_U := [(q_817, true, []), (q_818, true, []), (q_816, true, [])]
noncomputable def vf_819 : List ((Nat → am_I) → vm_A) := [fun v => (0, [(0, .inr (.inr (some 70))), (1, .inl (v 0))], [], (80, [(62, .inr (.inr (.inr (7, [.inr (.inr (some 71)), .inr (.inr (some 72)), .inl (.ofNat 2, .ofNat 5), .inl (.ofNat 2, .ofNat 5), .inl (.ofNat 0, .ofNat 5), .inr (.inr (some 73)), .inl (.ofNat 0, .ofNat 5), .inl (.ofNat 0, .ofNat 5), .inl (.ofNat 0, .ofNat 5), .inl am_top, .inl am_top, .inl am_top, .inr (.inr (some 74)), .inl (v 1), .inl (.ofNat 0, .ofNat 160), .inl (.ofNat 0, .ofNat 160), .inl (.ofNat 0, .ofNat 3), .inl am_top, .inl (.ofNat 0, .ofNat 6), .inl am_top, .inr (.inr (some 75)), .inr (.inr (some 76)), .inr (.inr (some 77)), .inr (.inr (some 78)), .inr (.inr (some 79)), .inr (.inr (some 80)), .inr (.inr (some 81)), .inl (.negSucc 0, .ofNat 6), .inr (.inr (some 82)), .inr (.inr (some 83)), .inr (.inr (some 84)), .inr (.inr (some 85)), .inr (.inr (some 86)), .inl am_top, .inr (.inr (some 87))]))))]))]
noncomputable def vd_819_0_0 : List (List Nat) := [[689895899136, 698485833728, 689929453568, 698519388160, 689946230784, 698536165376]]
noncomputable def vd_819_0 : List (List (List Nat)) := [vd_819_0_0]
noncomputable def vd_819 : List (List (List (List Nat))) := [vd_819_0]
noncomputable def vt_819 : List (List am_I) := [[(.ofNat 128, .ofNat 2147483647), (.ofNat 0, .ofNat 159), (.ofNat 0, .ofNat 127), (.negSucc 2147483647, .negSucc 0)]]
noncomputable def vc_819 : vm_C := (fun _ => vp_819, fun pc => (match Nat.beq pc 0 with
  | true => [(fun _ _ => some (.inl 1), fun _ _ => some [.ofNat 0, .ofNat 128]), (fun _ _ => some (.inr (62, 13)), fun _ _ => some [.ofNat 160])]
  | false => []), [], 6, vm_inst 8 161 vt_819 vf_819 vd_819)
theorem vx_819_0 : vm_chk bt_148 [] vk_819 27 vc_819 0 6 = true := by decide +kernel
theorem vy_819 : vm_ents 148 27 vc_819 ve_819 = true := by decide +kernel
theorem vw_819 : ∀ q ∈ vk_819, vm_wt 2 q := vm_wts (vm_kc (vm_up v_817 rfl) (vm_kc (vm_up v_818 rfl) (vm_kc (vm_up v_816 rfl) vm_kn))) (by decide +kernel)
theorem v_819 : vm_at 3 q_819 := vm_ok (inl := []) (es := ve_819) bq_148 (by decide) vw_819 vy_819 (fun i => vm_hc vx_819_0 rfl (fun h => absurd h (Nat.not_lt_zero _))) _ List.mem_cons_self
noncomputable def vp_820 : List vm_R := [(some (.inl (.ofNat 0, .ofNat 0)), va_h0)]
noncomputable def ve_820 : List vm_E := [([.inr (.inl (.negSucc 2147483647, .negSucc 0)), .inr (.inl (.ofNat 0, .ofNat 0)), .inr (.inl (.ofNat 0, .ofNat 160))], va_h0, 0, [0])]
noncomputable def q_820 : vm_Q := (149, [.inr (.inl (.negSucc 2147483647, .negSucc 0)), .inr (.inl (.ofNat 0, .ofNat 0)), .inr (.inl (.ofNat 0, .ofNat 160))], va_h0, vp_820)
noncomputable def vk_820 : List vm_U := []
noncomputable def vf_820 : List ((Nat → am_I) → vm_A) := [fun v => (0, [(0, .inr (.inl (.negSucc 2147483647, .negSucc 0))), (2, .inr (.inl (.ofNat 0, .ofNat 0))), (4, .inr (.inl (.ofNat 0, .ofNat 160)))], [], (80, []))]
noncomputable def vd_820_0_0 : List (List Nat) := [[0]]
noncomputable def vd_820_0 : List (List (List Nat)) := [vd_820_0_0]
noncomputable def vd_820 : List (List (List (List Nat))) := [vd_820_0]
noncomputable def vt_820 : List (List am_I) := []
noncomputable def vc_820 : vm_C := (fun _ => vp_820, fun pc => [], [], 1, vm_inst 8 1 vt_820 vf_820 vd_820)
theorem vx_820_0 : vm_chk bt_149 [] vk_820 8 vc_820 0 1 = true := by decide +kernel
theorem vy_820 : vm_ents 149 8 vc_820 ve_820 = true := by decide +kernel
theorem vw_820 : ∀ q ∈ vk_820, vm_wt 1 q := vm_wts vm_kn (by decide +kernel)
theorem v_820 : vm_at 2 q_820 := vm_ok (inl := []) (es := ve_820) bq_149 (by decide) vw_820 vy_820 (fun i => vm_hc vx_820_0 rfl (fun h => absurd h (Nat.not_lt_zero _))) _ List.mem_cons_self
noncomputable def vp_821 : List vm_R := [(some (.inl (.ofNat 0, .ofNat 1)), va_h0)]
noncomputable def ve_821 : List vm_E := [([.inr (.inl (.ofNat 0, .ofNat 160)), .inr (.inl (.ofNat 0, .ofNat 0)), .inr (.inl (.ofNat 0, .ofNat 160))], va_h0, 0, [0])]
noncomputable def q_821 : vm_Q := (149, [.inr (.inl (.ofNat 0, .ofNat 160)), .inr (.inl (.ofNat 0, .ofNat 0)), .inr (.inl (.ofNat 0, .ofNat 160))], va_h0, vp_821)
noncomputable def vk_821 : List vm_U := []
noncomputable def vf_821 : List ((Nat → am_I) → vm_A) := [fun v => (0, [(0, .inr (.inl (.ofNat 0, .ofNat 160))), (2, .inr (.inl (.ofNat 0, .ofNat 0))), (4, .inr (.inl (.ofNat 0, .ofNat 160)))], [], (80, []))]
noncomputable def vd_821_0_0 : List (List Nat) := [[0]]
noncomputable def vd_821_0 : List (List (List Nat)) := [vd_821_0_0]
noncomputable def vd_821 : List (List (List (List Nat))) := [vd_821_0]
noncomputable def vt_821 : List (List am_I) := []
noncomputable def vc_821 : vm_C := (fun _ => vp_821, fun pc => [], [], 1, vm_inst 8 1 vt_821 vf_821 vd_821)
theorem vx_821_0 : vm_chk bt_149 [] vk_821 13 vc_821 0 1 = true := by decide +kernel
theorem vy_821 : vm_ents 149 13 vc_821 ve_821 = true := by decide +kernel
theorem vw_821 : ∀ q ∈ vk_821, vm_wt 1 q := vm_wts vm_kn (by decide +kernel)
theorem v_821 : vm_at 2 q_821 := vm_ok (inl := []) (es := ve_821) bq_149 (by decide) vw_821 vy_821 (fun i => vm_hc vx_821_0 rfl (fun h => absurd h (Nat.not_lt_zero _))) _ List.mem_cons_self
noncomputable def vp_822 : List vm_R := [(some (.inl (.ofNat 0, .ofNat 0)), va_h0)]
noncomputable def ve_822 : List vm_E := [([.inr (.inl (.ofNat 161, .ofNat 2147483647)), .inr (.inl (.ofNat 0, .ofNat 0)), .inr (.inl (.ofNat 0, .ofNat 160))], va_h0, 0, [0])]
noncomputable def q_822 : vm_Q := (149, [.inr (.inl (.ofNat 161, .ofNat 2147483647)), .inr (.inl (.ofNat 0, .ofNat 0)), .inr (.inl (.ofNat 0, .ofNat 160))], va_h0, vp_822)
noncomputable def vk_822 : List vm_U := []
noncomputable def vf_822 : List ((Nat → am_I) → vm_A) := [fun v => (0, [(0, .inr (.inl (.ofNat 161, .ofNat 2147483647))), (2, .inr (.inl (.ofNat 0, .ofNat 0))), (4, .inr (.inl (.ofNat 0, .ofNat 160)))], [], (80, []))]
noncomputable def vd_822_0_0 : List (List Nat) := [[0]]
noncomputable def vd_822_0 : List (List (List Nat)) := [vd_822_0_0]
noncomputable def vd_822 : List (List (List (List Nat))) := [vd_822_0]
noncomputable def vt_822 : List (List am_I) := []
noncomputable def vc_822 : vm_C := (fun _ => vp_822, fun pc => [], [], 1, vm_inst 8 1 vt_822 vf_822 vd_822)
theorem vx_822_0 : vm_chk bt_149 [] vk_822 12 vc_822 0 1 = true := by decide +kernel
theorem vy_822 : vm_ents 149 12 vc_822 ve_822 = true := by decide +kernel
theorem vw_822 : ∀ q ∈ vk_822, vm_wt 1 q := vm_wts vm_kn (by decide +kernel)
theorem v_822 : vm_at 2 q_822 := vm_ok (inl := []) (es := ve_822) bq_149 (by decide) vw_822 vy_822 (fun i => vm_hc vx_822_0 rfl (fun h => absurd h (Nat.not_lt_zero _))) _ List.mem_cons_self
noncomputable def vp_823 : List vm_R := [(some (.inl (.negSucc 0, .ofNat 160)), va_h0)]
noncomputable def ve_823 : List vm_E := [([.inr (.inr (some 70)), .inl am_top], va_h0, 0, [0, 1, 2])]
noncomputable def q_823 : vm_Q := (150, [.inr (.inr (some 70)), .inl am_top], va_h0, vp_823)
noncomputable def vk_823 : List vm_U := [(q_821, true, []), (q_822, true, []), (q_820, true, [])]
noncomputable def vf_823 : List ((Nat → am_I) → vm_A) := [fun v => (0, [(0, .inr (.inr (some 70))), (1, .inl (v 0))], [], (80, []))]
noncomputable def vd_823_0_0 : List (List Nat) := [[16777216, 33554432, 50331648]]
noncomputable def vd_823_0 : List (List (List Nat)) := [vd_823_0_0]
noncomputable def vd_823 : List (List (List (List Nat))) := [vd_823_0]
noncomputable def vt_823 : List (List am_I) := [[(.ofNat 161, .ofNat 2147483647), (.ofNat 0, .ofNat 160), (.negSucc 2147483647, .negSucc 0)]]
noncomputable def vc_823 : vm_C := (fun _ => vp_823, fun pc => (match Nat.beq pc 0 with
  | true => [(fun _ _ => some (.inl 1), fun _ _ => some [.ofNat 0, .ofNat 161])]
  | false => []), [], 3, vm_inst 8 1 vt_823 vf_823 vd_823)
theorem vx_823_0 : vm_chk bt_150 [] vk_823 18 vc_823 0 3 = true := by decide +kernel
theorem vy_823 : vm_ents 150 18 vc_823 ve_823 = true := by decide +kernel
theorem vw_823 : ∀ q ∈ vk_823, vm_wt 2 q := vm_wts (vm_kc (vm_up v_821 rfl) (vm_kc (vm_up v_822 rfl) (vm_kc (vm_up v_820 rfl) vm_kn))) (by decide +kernel)
theorem v_823 : vm_at 3 q_823 := vm_ok (inl := []) (es := ve_823) bq_150 (by decide) vw_823 vy_823 (fun i => vm_hc vx_823_0 rfl (fun h => absurd h (Nat.not_lt_zero _))) _ List.mem_cons_self
noncomputable def va_c51 : am_C := .inr (.inr (.inr (7, [.inr (.inr (some 71)), .inr (.inr (some 72)), .inl (.ofNat 2, .ofNat 5), .inl (.ofNat 2, .ofNat 5), .inl (.ofNat 0, .ofNat 5), .inr (.inr (some 73)), .inl (.ofNat 2, .ofNat 5), .inl (.ofNat 2, .ofNat 5), .inl (.ofNat 0, .ofNat 5), .inl am_top, .inl am_top, .inl am_top, .inr (.inr (some 74)), .inl (.ofNat 0, .ofNat 160), .inl (.ofNat 0, .ofNat 160), .inl (.ofNat 0, .ofNat 160), .inl (.ofNat 0, .ofNat 3), .inl am_top, .inl (.ofNat 1, .ofNat 1), .inl (.ofNat 0, .ofNat 160), .inr (.inr (some 75)), .inr (.inr (some 76)), .inr (.inr (some 77)), .inr (.inr (some 78)), .inr (.inr (some 79)), .inr (.inr (some 80)), .inr (.inr (some 81)), .inl (.negSucc 0, .ofNat 6), .inr (.inr (some 82)), .inr (.inr (some 83)), .inr (.inr (some 84)), .inr (.inr (some 85)), .inr (.inr (some 86)), .inl am_top, .inr (.inr (some 87))])))
noncomputable def va_h166 : am_H := (80, [(62, va_c51)])
noncomputable def va_c52 : am_C := .inr (.inr (.inr (7, [.inr (.inr (some 71)), .inr (.inr (some 72)), .inl (.ofNat 2, .ofNat 5), .inl (.ofNat 2, .ofNat 5), .inl (.ofNat 0, .ofNat 5), .inr (.inr (some 73)), .inl (.ofNat 2, .ofNat 5), .inl (.ofNat 2, .ofNat 5), .inl (.ofNat 0, .ofNat 5), .inl am_top, .inl am_top, .inl am_top, .inr (.inr (some 74)), .inl (.ofNat 0, .ofNat 160), .inl (.ofNat 0, .ofNat 160), .inl (.ofNat 0, .ofNat 160), .inl (.ofNat 0, .ofNat 3), .inl am_top, .inl (.ofNat 0, .ofNat 0), .inl am_top, .inr (.inr (some 75)), .inr (.inr (some 76)), .inr (.inr (some 77)), .inr (.inr (some 78)), .inr (.inr (some 79)), .inr (.inr (some 80)), .inr (.inr (some 81)), .inl (.negSucc 0, .ofNat 6), .inr (.inr (some 82)), .inr (.inr (some 83)), .inr (.inr (some 84)), .inr (.inr (some 85)), .inr (.inr (some 86)), .inl am_top, .inr (.inr (some 87))])))
noncomputable def va_h167 : am_H := (80, [(62, va_c52)])
noncomputable def vp_824 : List vm_R := [(none, va_h166)]
noncomputable def ve_824 : List vm_E := [([.inr (.inr (some 70)), .inl (.ofNat 0, .ofNat 0), .inl (.ofNat 1, .ofNat 1)], va_h167, 0, [0])]
noncomputable def q_824 : vm_Q := (154, [.inr (.inr (some 70)), .inl (.ofNat 0, .ofNat 0), .inl (.ofNat 1, .ofNat 1)], va_h167, vp_824)
noncomputable def vk_824 : List vm_U := []
noncomputable def vf_824 : List ((Nat → am_I) → vm_A) := [fun v => (0, [(0, .inr (.inr (some 70))), (1, .inl (.ofNat 0, .ofNat 0)), (2, .inl (.ofNat 1, .ofNat 1))], [], (80, [(62, va_c52)]))]
noncomputable def vd_824_0_0 : List (List Nat) := [[0]]
noncomputable def vd_824_0 : List (List (List Nat)) := [vd_824_0_0]
noncomputable def vd_824 : List (List (List (List Nat))) := [vd_824_0]
noncomputable def vt_824 : List (List am_I) := []
noncomputable def vc_824 : vm_C := (fun _ => vp_824, fun pc => [], [], 1, vm_inst 8 1 vt_824 vf_824 vd_824)
theorem vx_824_0 : vm_chk bt_154 [] vk_824 15 vc_824 0 1 = true := by decide +kernel
theorem vy_824 : vm_ents 154 15 vc_824 ve_824 = true := by decide +kernel
theorem vw_824 : ∀ q ∈ vk_824, vm_wt 1 q := vm_wts vm_kn (by decide +kernel)
theorem v_824 : vm_at 2 q_824 := vm_ok (inl := []) (es := ve_824) bq_154 (by decide) vw_824 vy_824 (fun i => vm_hc vx_824_0 rfl (fun h => absurd h (Nat.not_lt_zero _))) _ List.mem_cons_self
noncomputable def va_c53 : am_C := .inr (.inr (.inr (7, [.inr (.inr (some 71)), .inr (.inr (some 72)), .inl (.ofNat 2, .ofNat 5), .inl (.ofNat 2, .ofNat 5), .inl (.ofNat 0, .ofNat 5), .inr (.inr (some 73)), .inl (.ofNat 0, .ofNat 5), .inl (.ofNat 0, .ofNat 5), .inl (.ofNat 0, .ofNat 5), .inl am_top, .inl am_top, .inl am_top, .inr (.inr (some 74)), .inl (.ofNat 0, .ofNat 160), .inl (.ofNat 0, .ofNat 160), .inl (.ofNat 0, .ofNat 160), .inl (.ofNat 0, .ofNat 3), .inl am_top, .inl (.ofNat 1, .ofNat 6), .inl am_top, .inr (.inr (some 75)), .inr (.inr (some 76)), .inr (.inr (some 77)), .inr (.inr (some 78)), .inr (.inr (some 79)), .inr (.inr (some 80)), .inr (.inr (some 81)), .inl (.negSucc 0, .ofNat 6), .inr (.inr (some 82)), .inr (.inr (some 83)), .inr (.inr (some 84)), .inr (.inr (some 85)), .inr (.inr (some 86)), .inl am_top, .inr (.inr (some 87))])))
noncomputable def va_h168 : am_H := (80, [(62, va_c53)])
noncomputable def vp_825 : List vm_R := [(none, va_h168)]
noncomputable def ve_825 : List vm_E := [([.inr (.inr (some 70)), .inl (.ofNat 0, .ofNat 0), .inl (.ofNat 1, .ofNat 1)], va_h168, 0, [0])]
noncomputable def q_825 : vm_Q := (154, [.inr (.inr (some 70)), .inl (.ofNat 0, .ofNat 0), .inl (.ofNat 1, .ofNat 1)], va_h168, vp_825)
noncomputable def vk_825 : List vm_U := []
noncomputable def vf_825 : List ((Nat → am_I) → vm_A) := [fun v => (0, [(0, .inr (.inr (some 70))), (1, .inl (.ofNat 0, .ofNat 0)), (2, .inl (.ofNat 1, .ofNat 1))], [], (80, [(62, va_c53)]))]
noncomputable def vd_825_0_0 : List (List Nat) := [[0]]
noncomputable def vd_825_0 : List (List (List Nat)) := [vd_825_0_0]
noncomputable def vd_825 : List (List (List (List Nat))) := [vd_825_0]
noncomputable def vt_825 : List (List am_I) := []
noncomputable def vc_825 : vm_C := (fun _ => vp_825, fun pc => [], [], 1, vm_inst 8 1 vt_825 vf_825 vd_825)
theorem vx_825_0 : vm_chk bt_154 [] vk_825 8 vc_825 0 1 = true := by decide +kernel
theorem vy_825 : vm_ents 154 8 vc_825 ve_825 = true := by decide +kernel
theorem vw_825 : ∀ q ∈ vk_825, vm_wt 1 q := vm_wts vm_kn (by decide +kernel)
theorem v_825 : vm_at 2 q_825 := vm_ok (inl := []) (es := ve_825) bq_154 (by decide) vw_825 vy_825 (fun i => vm_hc vx_825_0 rfl (fun h => absurd h (Nat.not_lt_zero _))) _ List.mem_cons_self
noncomputable def vp_826 : List vm_R := [(none, va_h167)]
noncomputable def ve_826 : List vm_E := [([.inr (.inr (some 70)), .inl (.ofNat 1, .ofNat 1), .inl (.ofNat 1, .ofNat 1)], va_h167, 0, [0])]
noncomputable def q_826 : vm_Q := (154, [.inr (.inr (some 70)), .inl (.ofNat 1, .ofNat 1), .inl (.ofNat 1, .ofNat 1)], va_h167, vp_826)
noncomputable def vk_826 : List vm_U := []
noncomputable def vf_826 : List ((Nat → am_I) → vm_A) := [fun v => (0, [(0, .inr (.inr (some 70))), (1, .inl (.ofNat 1, .ofNat 1)), (2, .inl (.ofNat 1, .ofNat 1))], [], (80, [(62, va_c52)]))]
noncomputable def vd_826_0_0 : List (List Nat) := [[0]]
noncomputable def vd_826_0 : List (List (List Nat)) := [vd_826_0_0]
noncomputable def vd_826 : List (List (List (List Nat))) := [vd_826_0]
noncomputable def vt_826 : List (List am_I) := []
noncomputable def vc_826 : vm_C := (fun _ => vp_826, fun pc => [], [], 1, vm_inst 8 1 vt_826 vf_826 vd_826)
theorem vx_826_0 : vm_chk bt_154 [] vk_826 5 vc_826 0 1 = true := by decide +kernel
theorem vy_826 : vm_ents 154 5 vc_826 ve_826 = true := by decide +kernel
theorem vw_826 : ∀ q ∈ vk_826, vm_wt 1 q := vm_wts vm_kn (by decide +kernel)
theorem v_826 : vm_at 2 q_826 := vm_ok (inl := []) (es := ve_826) bq_154 (by decide) vw_826 vy_826 (fun i => vm_hc vx_826_0 rfl (fun h => absurd h (Nat.not_lt_zero _))) _ List.mem_cons_self
noncomputable def vp_827 : List vm_R := [(none, va_h168)]
noncomputable def ve_827 : List vm_E := [([.inr (.inr (some 70)), .inl (.ofNat 1, .ofNat 1), .inl (.ofNat 1, .ofNat 1)], va_h168, 0, [0])]
noncomputable def q_827 : vm_Q := (154, [.inr (.inr (some 70)), .inl (.ofNat 1, .ofNat 1), .inl (.ofNat 1, .ofNat 1)], va_h168, vp_827)
noncomputable def vk_827 : List vm_U := []
noncomputable def vf_827 : List ((Nat → am_I) → vm_A) := [fun v => (0, [(0, .inr (.inr (some 70))), (1, .inl (.ofNat 1, .ofNat 1)), (2, .inl (.ofNat 1, .ofNat 1))], [], (80, [(62, va_c53)]))]
noncomputable def vd_827_0_0 : List (List Nat) := [[0]]
noncomputable def vd_827_0 : List (List (List Nat)) := [vd_827_0_0]
noncomputable def vd_827 : List (List (List (List Nat))) := [vd_827_0]
noncomputable def vt_827 : List (List am_I) := []
noncomputable def vc_827 : vm_C := (fun _ => vp_827, fun pc => [], [], 1, vm_inst 8 1 vt_827 vf_827 vd_827)
theorem vx_827_0 : vm_chk bt_154 [] vk_827 5 vc_827 0 1 = true := by decide +kernel
theorem vy_827 : vm_ents 154 5 vc_827 ve_827 = true := by decide +kernel
theorem vw_827 : ∀ q ∈ vk_827, vm_wt 1 q := vm_wts vm_kn (by decide +kernel)
theorem v_827 : vm_at 2 q_827 := vm_ok (inl := []) (es := ve_827) bq_154 (by decide) vw_827 vy_827 (fun i => vm_hc vx_827_0 rfl (fun h => absurd h (Nat.not_lt_zero _))) _ List.mem_cons_self
noncomputable def vp_828 : List vm_R := [(none, va_h166), (none, va_h167)]
noncomputable def ve_828 : List vm_E := [([.inr (.inr (some 70)), .inl (.ofNat 0, .ofNat 1), .inl (.ofNat 1, .ofNat 1)], va_h167, 0, [0])]
noncomputable def q_828 : vm_Q := (154, [.inr (.inr (some 70)), .inl (.ofNat 0, .ofNat 1), .inl (.ofNat 1, .ofNat 1)], va_h167, vp_828)
noncomputable def vk_828 : List vm_U := []
noncomputable def vf_828 : List ((Nat → am_I) → vm_A) := [fun v => (0, [(0, .inr (.inr (some 70))), (1, .inl (.ofNat 0, .ofNat 1)), (2, .inl (.ofNat 1, .ofNat 1))], [], (80, [(62, va_c52)]))]
noncomputable def vd_828_0_0 : List (List Nat) := [[0]]
noncomputable def vd_828_0 : List (List (List Nat)) := [vd_828_0_0]
noncomputable def vd_828 : List (List (List (List Nat))) := [vd_828_0]
noncomputable def vt_828 : List (List am_I) := []
noncomputable def vc_828 : vm_C := (fun _ => vp_828, fun pc => [], [], 1, vm_inst 8 1 vt_828 vf_828 vd_828)
theorem vx_828_0 : vm_chk bt_154 [] vk_828 15 vc_828 0 1 = true := by decide +kernel
theorem vy_828 : vm_ents 154 15 vc_828 ve_828 = true := by decide +kernel
theorem vw_828 : ∀ q ∈ vk_828, vm_wt 1 q := vm_wts vm_kn (by decide +kernel)
theorem v_828 : vm_at 2 q_828 := vm_ok (inl := []) (es := ve_828) bq_154 (by decide) vw_828 vy_828 (fun i => vm_hc vx_828_0 rfl (fun h => absurd h (Nat.not_lt_zero _))) _ List.mem_cons_self
noncomputable def vp_829 : List vm_R := [(none, va_h168)]
noncomputable def ve_829 : List vm_E := [([.inr (.inr (some 70)), .inl (.ofNat 0, .ofNat 1), .inl (.ofNat 1, .ofNat 1)], va_h168, 0, [0])]
noncomputable def q_829 : vm_Q := (154, [.inr (.inr (some 70)), .inl (.ofNat 0, .ofNat 1), .inl (.ofNat 1, .ofNat 1)], va_h168, vp_829)
noncomputable def vk_829 : List vm_U := []
noncomputable def vf_829 : List ((Nat → am_I) → vm_A) := [fun v => (0, [(0, .inr (.inr (some 70))), (1, .inl (.ofNat 0, .ofNat 1)), (2, .inl (.ofNat 1, .ofNat 1))], [], (80, [(62, va_c53)]))]
noncomputable def vd_829_0_0 : List (List Nat) := [[0]]
noncomputable def vd_829_0 : List (List (List Nat)) := [vd_829_0_0]
noncomputable def vd_829 : List (List (List (List Nat))) := [vd_829_0]
noncomputable def vt_829 : List (List am_I) := []
noncomputable def vc_829 : vm_C := (fun _ => vp_829, fun pc => [], [], 1, vm_inst 8 1 vt_829 vf_829 vd_829)
theorem vx_829_0 : vm_chk bt_154 [] vk_829 8 vc_829 0 1 = true := by decide +kernel
theorem vy_829 : vm_ents 154 8 vc_829 ve_829 = true := by decide +kernel
theorem vw_829 : ∀ q ∈ vk_829, vm_wt 1 q := vm_wts vm_kn (by decide +kernel)
theorem v_829 : vm_at 2 q_829 := vm_ok (inl := []) (es := ve_829) bq_154 (by decide) vw_829 vy_829 (fun i => vm_hc vx_829_0 rfl (fun h => absurd h (Nat.not_lt_zero _))) _ List.mem_cons_self
noncomputable def va_c54 : am_C := .inr (.inr (.inr (7, [.inr (.inr (some 71)), .inr (.inr (some 72)), .inl (.ofNat 2, .ofNat 5), .inl (.ofNat 2, .ofNat 5), .inl (.ofNat 0, .ofNat 5), .inr (.inr (some 73)), .inl (.ofNat 2, .ofNat 5), .inl (.ofNat 2, .ofNat 5), .inl (.ofNat 0, .ofNat 5), .inl am_top, .inl am_top, .inl am_top, .inr (.inr (some 74)), .inl (.ofNat 0, .ofNat 160), .inl (.ofNat 0, .ofNat 160), .inl (.ofNat 0, .ofNat 160), .inl (.ofNat 0, .ofNat 3), .inl am_top, .inl (.ofNat 2, .ofNat 2), .inl (.ofNat 0, .ofNat 160), .inr (.inr (some 75)), .inr (.inr (some 76)), .inr (.inr (some 77)), .inr (.inr (some 78)), .inr (.inr (some 79)), .inr (.inr (some 80)), .inr (.inr (some 81)), .inl (.negSucc 0, .ofNat 6), .inr (.inr (some 82)), .inr (.inr (some 83)), .inr (.inr (some 84)), .inr (.inr (some 85)), .inr (.inr (some 86)), .inl am_top, .inr (.inr (some 87))])))
noncomputable def va_h169 : am_H := (80, [(62, va_c54)])
noncomputable def vp_830 : List vm_R := [(none, va_h169)]
noncomputable def ve_830 : List vm_E := [([.inr (.inr (some 70)), .inl (.ofNat 0, .ofNat 0), .inl (.ofNat 2, .ofNat 2)], va_h167, 0, [0])]
noncomputable def q_830 : vm_Q := (154, [.inr (.inr (some 70)), .inl (.ofNat 0, .ofNat 0), .inl (.ofNat 2, .ofNat 2)], va_h167, vp_830)
noncomputable def vk_830 : List vm_U := []
noncomputable def vf_830 : List ((Nat → am_I) → vm_A) := [fun v => (0, [(0, .inr (.inr (some 70))), (1, .inl (.ofNat 0, .ofNat 0)), (2, .inl (.ofNat 2, .ofNat 2))], [], (80, [(62, va_c52)]))]
noncomputable def vd_830_0_0 : List (List Nat) := [[0]]
noncomputable def vd_830_0 : List (List (List Nat)) := [vd_830_0_0]
noncomputable def vd_830 : List (List (List (List Nat))) := [vd_830_0]
noncomputable def vt_830 : List (List am_I) := []
noncomputable def vc_830 : vm_C := (fun _ => vp_830, fun pc => [], [], 1, vm_inst 8 1 vt_830 vf_830 vd_830)
theorem vx_830_0 : vm_chk bt_154 [] vk_830 15 vc_830 0 1 = true := by decide +kernel
theorem vy_830 : vm_ents 154 15 vc_830 ve_830 = true := by decide +kernel
theorem vw_830 : ∀ q ∈ vk_830, vm_wt 1 q := vm_wts vm_kn (by decide +kernel)
theorem v_830 : vm_at 2 q_830 := vm_ok (inl := []) (es := ve_830) bq_154 (by decide) vw_830 vy_830 (fun i => vm_hc vx_830_0 rfl (fun h => absurd h (Nat.not_lt_zero _))) _ List.mem_cons_self
noncomputable def vp_831 : List vm_R := [(none, va_h168)]
noncomputable def ve_831 : List vm_E := [([.inr (.inr (some 70)), .inl (.ofNat 0, .ofNat 0), .inl (.ofNat 2, .ofNat 2)], va_h168, 0, [0])]
noncomputable def q_831 : vm_Q := (154, [.inr (.inr (some 70)), .inl (.ofNat 0, .ofNat 0), .inl (.ofNat 2, .ofNat 2)], va_h168, vp_831)
noncomputable def vk_831 : List vm_U := []
noncomputable def vf_831 : List ((Nat → am_I) → vm_A) := [fun v => (0, [(0, .inr (.inr (some 70))), (1, .inl (.ofNat 0, .ofNat 0)), (2, .inl (.ofNat 2, .ofNat 2))], [], (80, [(62, va_c53)]))]
noncomputable def vd_831_0_0 : List (List Nat) := [[0]]
noncomputable def vd_831_0 : List (List (List Nat)) := [vd_831_0_0]
noncomputable def vd_831 : List (List (List (List Nat))) := [vd_831_0]
noncomputable def vt_831 : List (List am_I) := []
noncomputable def vc_831 : vm_C := (fun _ => vp_831, fun pc => [], [], 1, vm_inst 8 1 vt_831 vf_831 vd_831)
theorem vx_831_0 : vm_chk bt_154 [] vk_831 8 vc_831 0 1 = true := by decide +kernel
theorem vy_831 : vm_ents 154 8 vc_831 ve_831 = true := by decide +kernel
theorem vw_831 : ∀ q ∈ vk_831, vm_wt 1 q := vm_wts vm_kn (by decide +kernel)
theorem v_831 : vm_at 2 q_831 := vm_ok (inl := []) (es := ve_831) bq_154 (by decide) vw_831 vy_831 (fun i => vm_hc vx_831_0 rfl (fun h => absurd h (Nat.not_lt_zero _))) _ List.mem_cons_self
noncomputable def vp_832 : List vm_R := [(none, va_h167)]
noncomputable def ve_832 : List vm_E := [([.inr (.inr (some 70)), .inl (.ofNat 1, .ofNat 1), .inl (.ofNat 2, .ofNat 2)], va_h167, 0, [0])]
noncomputable def q_832 : vm_Q := (154, [.inr (.inr (some 70)), .inl (.ofNat 1, .ofNat 1), .inl (.ofNat 2, .ofNat 2)], va_h167, vp_832)
noncomputable def vk_832 : List vm_U := []
noncomputable def vf_832 : List ((Nat → am_I) → vm_A) := [fun v => (0, [(0, .inr (.inr (some 70))), (1, .inl (.ofNat 1, .ofNat 1)), (2, .inl (.ofNat 2, .ofNat 2))], [], (80, [(62, va_c52)]))]
noncomputable def vd_832_0_0 : List (List Nat) := [[0]]
noncomputable def vd_832_0 : List (List (List Nat)) := [vd_832_0_0]
noncomputable def vd_832 : List (List (List (List Nat))) := [vd_832_0]
noncomputable def vt_832 : List (List am_I) := []
noncomputable def vc_832 : vm_C := (fun _ => vp_832, fun pc => [], [], 1, vm_inst 8 1 vt_832 vf_832 vd_832)
theorem vx_832_0 : vm_chk bt_154 [] vk_832 5 vc_832 0 1 = true := by decide +kernel
theorem vy_832 : vm_ents 154 5 vc_832 ve_832 = true := by decide +kernel
theorem vw_832 : ∀ q ∈ vk_832, vm_wt 1 q := vm_wts vm_kn (by decide +kernel)
theorem v_832 : vm_at 2 q_832 := vm_ok (inl := []) (es := ve_832) bq_154 (by decide) vw_832 vy_832 (fun i => vm_hc vx_832_0 rfl (fun h => absurd h (Nat.not_lt_zero _))) _ List.mem_cons_self
noncomputable def vp_833 : List vm_R := [(none, va_h168)]
noncomputable def ve_833 : List vm_E := [([.inr (.inr (some 70)), .inl (.ofNat 1, .ofNat 1), .inl (.ofNat 2, .ofNat 2)], va_h168, 0, [0])]
noncomputable def q_833 : vm_Q := (154, [.inr (.inr (some 70)), .inl (.ofNat 1, .ofNat 1), .inl (.ofNat 2, .ofNat 2)], va_h168, vp_833)
noncomputable def vk_833 : List vm_U := []
noncomputable def vf_833 : List ((Nat → am_I) → vm_A) := [fun v => (0, [(0, .inr (.inr (some 70))), (1, .inl (.ofNat 1, .ofNat 1)), (2, .inl (.ofNat 2, .ofNat 2))], [], (80, [(62, va_c53)]))]
noncomputable def vd_833_0_0 : List (List Nat) := [[0]]
noncomputable def vd_833_0 : List (List (List Nat)) := [vd_833_0_0]
noncomputable def vd_833 : List (List (List (List Nat))) := [vd_833_0]
noncomputable def vt_833 : List (List am_I) := []
noncomputable def vc_833 : vm_C := (fun _ => vp_833, fun pc => [], [], 1, vm_inst 8 1 vt_833 vf_833 vd_833)
theorem vx_833_0 : vm_chk bt_154 [] vk_833 5 vc_833 0 1 = true := by decide +kernel
theorem vy_833 : vm_ents 154 5 vc_833 ve_833 = true := by decide +kernel
theorem vw_833 : ∀ q ∈ vk_833, vm_wt 1 q := vm_wts vm_kn (by decide +kernel)
theorem v_833 : vm_at 2 q_833 := vm_ok (inl := []) (es := ve_833) bq_154 (by decide) vw_833 vy_833 (fun i => vm_hc vx_833_0 rfl (fun h => absurd h (Nat.not_lt_zero _))) _ List.mem_cons_self
noncomputable def vp_834 : List vm_R := [(none, va_h169), (none, va_h167)]
noncomputable def ve_834 : List vm_E := [([.inr (.inr (some 70)), .inl (.ofNat 0, .ofNat 1), .inl (.ofNat 2, .ofNat 2)], va_h167, 0, [0])]
noncomputable def q_834 : vm_Q := (154, [.inr (.inr (some 70)), .inl (.ofNat 0, .ofNat 1), .inl (.ofNat 2, .ofNat 2)], va_h167, vp_834)
noncomputable def vk_834 : List vm_U := []
noncomputable def vf_834 : List ((Nat → am_I) → vm_A) := [fun v => (0, [(0, .inr (.inr (some 70))), (1, .inl (.ofNat 0, .ofNat 1)), (2, .inl (.ofNat 2, .ofNat 2))], [], (80, [(62, va_c52)]))]
noncomputable def vd_834_0_0 : List (List Nat) := [[0]]
noncomputable def vd_834_0 : List (List (List Nat)) := [vd_834_0_0]
noncomputable def vd_834 : List (List (List (List Nat))) := [vd_834_0]
noncomputable def vt_834 : List (List am_I) := []
noncomputable def vc_834 : vm_C := (fun _ => vp_834, fun pc => [], [], 1, vm_inst 8 1 vt_834 vf_834 vd_834)
theorem vx_834_0 : vm_chk bt_154 [] vk_834 15 vc_834 0 1 = true := by decide +kernel
theorem vy_834 : vm_ents 154 15 vc_834 ve_834 = true := by decide +kernel
theorem vw_834 : ∀ q ∈ vk_834, vm_wt 1 q := vm_wts vm_kn (by decide +kernel)
theorem v_834 : vm_at 2 q_834 := vm_ok (inl := []) (es := ve_834) bq_154 (by decide) vw_834 vy_834 (fun i => vm_hc vx_834_0 rfl (fun h => absurd h (Nat.not_lt_zero _))) _ List.mem_cons_self
noncomputable def vp_835 : List vm_R := [(none, va_h168)]
noncomputable def ve_835 : List vm_E := [([.inr (.inr (some 70)), .inl (.ofNat 0, .ofNat 1), .inl (.ofNat 2, .ofNat 2)], va_h168, 0, [0])]
noncomputable def q_835 : vm_Q := (154, [.inr (.inr (some 70)), .inl (.ofNat 0, .ofNat 1), .inl (.ofNat 2, .ofNat 2)], va_h168, vp_835)
noncomputable def vk_835 : List vm_U := []
noncomputable def vf_835 : List ((Nat → am_I) → vm_A) := [fun v => (0, [(0, .inr (.inr (some 70))), (1, .inl (.ofNat 0, .ofNat 1)), (2, .inl (.ofNat 2, .ofNat 2))], [], (80, [(62, va_c53)]))]
noncomputable def vd_835_0_0 : List (List Nat) := [[0]]
noncomputable def vd_835_0 : List (List (List Nat)) := [vd_835_0_0]
noncomputable def vd_835 : List (List (List (List Nat))) := [vd_835_0]
noncomputable def vt_835 : List (List am_I) := []
noncomputable def vc_835 : vm_C := (fun _ => vp_835, fun pc => [], [], 1, vm_inst 8 1 vt_835 vf_835 vd_835)
theorem vx_835_0 : vm_chk bt_154 [] vk_835 8 vc_835 0 1 = true := by decide +kernel
theorem vy_835 : vm_ents 154 8 vc_835 ve_835 = true := by decide +kernel
theorem vw_835 : ∀ q ∈ vk_835, vm_wt 1 q := vm_wts vm_kn (by decide +kernel)
theorem v_835 : vm_at 2 q_835 := vm_ok (inl := []) (es := ve_835) bq_154 (by decide) vw_835 vy_835 (fun i => vm_hc vx_835_0 rfl (fun h => absurd h (Nat.not_lt_zero _))) _ List.mem_cons_self
noncomputable def va_c55 : am_C := .inr (.inr (.inr (7, [.inr (.inr (some 71)), .inr (.inr (some 72)), .inl (.ofNat 2, .ofNat 5), .inl (.ofNat 2, .ofNat 5), .inl (.ofNat 0, .ofNat 5), .inr (.inr (some 73)), .inl (.ofNat 2, .ofNat 5), .inl (.ofNat 2, .ofNat 5), .inl (.ofNat 0, .ofNat 5), .inl am_top, .inl am_top, .inl am_top, .inr (.inr (some 74)), .inl (.ofNat 0, .ofNat 160), .inl (.ofNat 0, .ofNat 160), .inl (.ofNat 0, .ofNat 160), .inl (.ofNat 0, .ofNat 3), .inl am_top, .inl (.ofNat 3, .ofNat 3), .inl (.ofNat 0, .ofNat 160), .inr (.inr (some 75)), .inr (.inr (some 76)), .inr (.inr (some 77)), .inr (.inr (some 78)), .inr (.inr (some 79)), .inr (.inr (some 80)), .inr (.inr (some 81)), .inl (.negSucc 0, .ofNat 6), .inr (.inr (some 82)), .inr (.inr (some 83)), .inr (.inr (some 84)), .inr (.inr (some 85)), .inr (.inr (some 86)), .inl am_top, .inr (.inr (some 87))])))
noncomputable def va_h170 : am_H := (80, [(62, va_c55)])
noncomputable def vp_836 : List vm_R := [(none, va_h170)]
noncomputable def ve_836 : List vm_E := [([.inr (.inr (some 70)), .inl (.ofNat 0, .ofNat 0), .inl (.ofNat 3, .ofNat 3)], va_h167, 0, [0])]
noncomputable def q_836 : vm_Q := (154, [.inr (.inr (some 70)), .inl (.ofNat 0, .ofNat 0), .inl (.ofNat 3, .ofNat 3)], va_h167, vp_836)
noncomputable def vk_836 : List vm_U := []
noncomputable def vf_836 : List ((Nat → am_I) → vm_A) := [fun v => (0, [(0, .inr (.inr (some 70))), (1, .inl (.ofNat 0, .ofNat 0)), (2, .inl (.ofNat 3, .ofNat 3))], [], (80, [(62, va_c52)]))]
noncomputable def vd_836_0_0 : List (List Nat) := [[0]]
noncomputable def vd_836_0 : List (List (List Nat)) := [vd_836_0_0]
noncomputable def vd_836 : List (List (List (List Nat))) := [vd_836_0]
noncomputable def vt_836 : List (List am_I) := []
noncomputable def vc_836 : vm_C := (fun _ => vp_836, fun pc => [], [], 1, vm_inst 8 1 vt_836 vf_836 vd_836)
theorem vx_836_0 : vm_chk bt_154 [] vk_836 15 vc_836 0 1 = true := by decide +kernel
theorem vy_836 : vm_ents 154 15 vc_836 ve_836 = true := by decide +kernel
theorem vw_836 : ∀ q ∈ vk_836, vm_wt 1 q := vm_wts vm_kn (by decide +kernel)
theorem v_836 : vm_at 2 q_836 := vm_ok (inl := []) (es := ve_836) bq_154 (by decide) vw_836 vy_836 (fun i => vm_hc vx_836_0 rfl (fun h => absurd h (Nat.not_lt_zero _))) _ List.mem_cons_self
noncomputable def vp_837 : List vm_R := [(none, va_h168)]
noncomputable def ve_837 : List vm_E := [([.inr (.inr (some 70)), .inl (.ofNat 0, .ofNat 0), .inl (.ofNat 3, .ofNat 3)], va_h168, 0, [0])]
noncomputable def q_837 : vm_Q := (154, [.inr (.inr (some 70)), .inl (.ofNat 0, .ofNat 0), .inl (.ofNat 3, .ofNat 3)], va_h168, vp_837)
noncomputable def vk_837 : List vm_U := []
noncomputable def vf_837 : List ((Nat → am_I) → vm_A) := [fun v => (0, [(0, .inr (.inr (some 70))), (1, .inl (.ofNat 0, .ofNat 0)), (2, .inl (.ofNat 3, .ofNat 3))], [], (80, [(62, va_c53)]))]
noncomputable def vd_837_0_0 : List (List Nat) := [[0]]
noncomputable def vd_837_0 : List (List (List Nat)) := [vd_837_0_0]
noncomputable def vd_837 : List (List (List (List Nat))) := [vd_837_0]
noncomputable def vt_837 : List (List am_I) := []
noncomputable def vc_837 : vm_C := (fun _ => vp_837, fun pc => [], [], 1, vm_inst 8 1 vt_837 vf_837 vd_837)
theorem vx_837_0 : vm_chk bt_154 [] vk_837 8 vc_837 0 1 = true := by decide +kernel
theorem vy_837 : vm_ents 154 8 vc_837 ve_837 = true := by decide +kernel
theorem vw_837 : ∀ q ∈ vk_837, vm_wt 1 q := vm_wts vm_kn (by decide +kernel)
theorem v_837 : vm_at 2 q_837 := vm_ok (inl := []) (es := ve_837) bq_154 (by decide) vw_837 vy_837 (fun i => vm_hc vx_837_0 rfl (fun h => absurd h (Nat.not_lt_zero _))) _ List.mem_cons_self
noncomputable def vp_838 : List vm_R := [(none, va_h167)]
noncomputable def ve_838 : List vm_E := [([.inr (.inr (some 70)), .inl (.ofNat 1, .ofNat 1), .inl (.ofNat 3, .ofNat 3)], va_h167, 0, [0])]
noncomputable def q_838 : vm_Q := (154, [.inr (.inr (some 70)), .inl (.ofNat 1, .ofNat 1), .inl (.ofNat 3, .ofNat 3)], va_h167, vp_838)
noncomputable def vk_838 : List vm_U := []
noncomputable def vf_838 : List ((Nat → am_I) → vm_A) := [fun v => (0, [(0, .inr (.inr (some 70))), (1, .inl (.ofNat 1, .ofNat 1)), (2, .inl (.ofNat 3, .ofNat 3))], [], (80, [(62, va_c52)]))]
noncomputable def vd_838_0_0 : List (List Nat) := [[0]]
noncomputable def vd_838_0 : List (List (List Nat)) := [vd_838_0_0]
noncomputable def vd_838 : List (List (List (List Nat))) := [vd_838_0]
noncomputable def vt_838 : List (List am_I) := []
noncomputable def vc_838 : vm_C := (fun _ => vp_838, fun pc => [], [], 1, vm_inst 8 1 vt_838 vf_838 vd_838)
theorem vx_838_0 : vm_chk bt_154 [] vk_838 5 vc_838 0 1 = true := by decide +kernel
theorem vy_838 : vm_ents 154 5 vc_838 ve_838 = true := by decide +kernel
theorem vw_838 : ∀ q ∈ vk_838, vm_wt 1 q := vm_wts vm_kn (by decide +kernel)
theorem v_838 : vm_at 2 q_838 := vm_ok (inl := []) (es := ve_838) bq_154 (by decide) vw_838 vy_838 (fun i => vm_hc vx_838_0 rfl (fun h => absurd h (Nat.not_lt_zero _))) _ List.mem_cons_self
noncomputable def vp_839 : List vm_R := [(none, va_h168)]
noncomputable def ve_839 : List vm_E := [([.inr (.inr (some 70)), .inl (.ofNat 1, .ofNat 1), .inl (.ofNat 3, .ofNat 3)], va_h168, 0, [0])]
noncomputable def q_839 : vm_Q := (154, [.inr (.inr (some 70)), .inl (.ofNat 1, .ofNat 1), .inl (.ofNat 3, .ofNat 3)], va_h168, vp_839)
noncomputable def vk_839 : List vm_U := []
noncomputable def vf_839 : List ((Nat → am_I) → vm_A) := [fun v => (0, [(0, .inr (.inr (some 70))), (1, .inl (.ofNat 1, .ofNat 1)), (2, .inl (.ofNat 3, .ofNat 3))], [], (80, [(62, va_c53)]))]
noncomputable def vd_839_0_0 : List (List Nat) := [[0]]
noncomputable def vd_839_0 : List (List (List Nat)) := [vd_839_0_0]
noncomputable def vd_839 : List (List (List (List Nat))) := [vd_839_0]
noncomputable def vt_839 : List (List am_I) := []
noncomputable def vc_839 : vm_C := (fun _ => vp_839, fun pc => [], [], 1, vm_inst 8 1 vt_839 vf_839 vd_839)
theorem vx_839_0 : vm_chk bt_154 [] vk_839 5 vc_839 0 1 = true := by decide +kernel
theorem vy_839 : vm_ents 154 5 vc_839 ve_839 = true := by decide +kernel
theorem vw_839 : ∀ q ∈ vk_839, vm_wt 1 q := vm_wts vm_kn (by decide +kernel)
theorem v_839 : vm_at 2 q_839 := vm_ok (inl := []) (es := ve_839) bq_154 (by decide) vw_839 vy_839 (fun i => vm_hc vx_839_0 rfl (fun h => absurd h (Nat.not_lt_zero _))) _ List.mem_cons_self
noncomputable def vp_840 : List vm_R := [(none, va_h170), (none, va_h167)]
noncomputable def ve_840 : List vm_E := [([.inr (.inr (some 70)), .inl (.ofNat 0, .ofNat 1), .inl (.ofNat 3, .ofNat 3)], va_h167, 0, [0])]
noncomputable def q_840 : vm_Q := (154, [.inr (.inr (some 70)), .inl (.ofNat 0, .ofNat 1), .inl (.ofNat 3, .ofNat 3)], va_h167, vp_840)
noncomputable def vk_840 : List vm_U := []
noncomputable def vf_840 : List ((Nat → am_I) → vm_A) := [fun v => (0, [(0, .inr (.inr (some 70))), (1, .inl (.ofNat 0, .ofNat 1)), (2, .inl (.ofNat 3, .ofNat 3))], [], (80, [(62, va_c52)]))]
noncomputable def vd_840_0_0 : List (List Nat) := [[0]]
noncomputable def vd_840_0 : List (List (List Nat)) := [vd_840_0_0]
noncomputable def vd_840 : List (List (List (List Nat))) := [vd_840_0]
noncomputable def vt_840 : List (List am_I) := []
noncomputable def vc_840 : vm_C := (fun _ => vp_840, fun pc => [], [], 1, vm_inst 8 1 vt_840 vf_840 vd_840)
theorem vx_840_0 : vm_chk bt_154 [] vk_840 15 vc_840 0 1 = true := by decide +kernel
theorem vy_840 : vm_ents 154 15 vc_840 ve_840 = true := by decide +kernel
theorem vw_840 : ∀ q ∈ vk_840, vm_wt 1 q := vm_wts vm_kn (by decide +kernel)
theorem v_840 : vm_at 2 q_840 := vm_ok (inl := []) (es := ve_840) bq_154 (by decide) vw_840 vy_840 (fun i => vm_hc vx_840_0 rfl (fun h => absurd h (Nat.not_lt_zero _))) _ List.mem_cons_self
noncomputable def vp_841 : List vm_R := [(none, va_h168)]
noncomputable def ve_841 : List vm_E := [([.inr (.inr (some 70)), .inl (.ofNat 0, .ofNat 1), .inl (.ofNat 3, .ofNat 3)], va_h168, 0, [0])]
noncomputable def q_841 : vm_Q := (154, [.inr (.inr (some 70)), .inl (.ofNat 0, .ofNat 1), .inl (.ofNat 3, .ofNat 3)], va_h168, vp_841)
noncomputable def vk_841 : List vm_U := []
noncomputable def vf_841 : List ((Nat → am_I) → vm_A) := [fun v => (0, [(0, .inr (.inr (some 70))), (1, .inl (.ofNat 0, .ofNat 1)), (2, .inl (.ofNat 3, .ofNat 3))], [], (80, [(62, va_c53)]))]
noncomputable def vd_841_0_0 : List (List Nat) := [[0]]
noncomputable def vd_841_0 : List (List (List Nat)) := [vd_841_0_0]
noncomputable def vd_841 : List (List (List (List Nat))) := [vd_841_0]
noncomputable def vt_841 : List (List am_I) := []
noncomputable def vc_841 : vm_C := (fun _ => vp_841, fun pc => [], [], 1, vm_inst 8 1 vt_841 vf_841 vd_841)
theorem vx_841_0 : vm_chk bt_154 [] vk_841 8 vc_841 0 1 = true := by decide +kernel
theorem vy_841 : vm_ents 154 8 vc_841 ve_841 = true := by decide +kernel
theorem vw_841 : ∀ q ∈ vk_841, vm_wt 1 q := vm_wts vm_kn (by decide +kernel)
theorem v_841 : vm_at 2 q_841 := vm_ok (inl := []) (es := ve_841) bq_154 (by decide) vw_841 vy_841 (fun i => vm_hc vx_841_0 rfl (fun h => absurd h (Nat.not_lt_zero _))) _ List.mem_cons_self
noncomputable def va_c56 : am_C := .inr (.inr (.inr (7, [.inr (.inr (some 71)), .inr (.inr (some 72)), .inl (.ofNat 2, .ofNat 5), .inl (.ofNat 2, .ofNat 5), .inl (.ofNat 0, .ofNat 5), .inr (.inr (some 73)), .inl (.ofNat 2, .ofNat 5), .inl (.ofNat 2, .ofNat 5), .inl (.ofNat 0, .ofNat 5), .inl am_top, .inl am_top, .inl am_top, .inr (.inr (some 74)), .inl (.ofNat 0, .ofNat 160), .inl (.ofNat 0, .ofNat 160), .inl (.ofNat 0, .ofNat 160), .inl (.ofNat 0, .ofNat 3), .inl am_top, .inl (.ofNat 4, .ofNat 4), .inl (.ofNat 0, .ofNat 160), .inr (.inr (some 75)), .inr (.inr (some 76)), .inr (.inr (some 77)), .inr (.inr (some 78)), .inr (.inr (some 79)), .inr (.inr (some 80)), .inr (.inr (some 81)), .inl (.negSucc 0, .ofNat 6), .inr (.inr (some 82)), .inr (.inr (some 83)), .inr (.inr (some 84)), .inr (.inr (some 85)), .inr (.inr (some 86)), .inl am_top, .inr (.inr (some 87))])))
noncomputable def va_h171 : am_H := (80, [(62, va_c56)])
noncomputable def vp_842 : List vm_R := [(none, va_h171)]
noncomputable def ve_842 : List vm_E := [([.inr (.inr (some 70)), .inl (.ofNat 0, .ofNat 0), .inl (.ofNat 4, .ofNat 4)], va_h167, 0, [0])]
noncomputable def q_842 : vm_Q := (154, [.inr (.inr (some 70)), .inl (.ofNat 0, .ofNat 0), .inl (.ofNat 4, .ofNat 4)], va_h167, vp_842)
noncomputable def vk_842 : List vm_U := []
noncomputable def vf_842 : List ((Nat → am_I) → vm_A) := [fun v => (0, [(0, .inr (.inr (some 70))), (1, .inl (.ofNat 0, .ofNat 0)), (2, .inl (.ofNat 4, .ofNat 4))], [], (80, [(62, va_c52)]))]
noncomputable def vd_842_0_0 : List (List Nat) := [[0]]
noncomputable def vd_842_0 : List (List (List Nat)) := [vd_842_0_0]
noncomputable def vd_842 : List (List (List (List Nat))) := [vd_842_0]
noncomputable def vt_842 : List (List am_I) := []
noncomputable def vc_842 : vm_C := (fun _ => vp_842, fun pc => [], [], 1, vm_inst 8 1 vt_842 vf_842 vd_842)
theorem vx_842_0 : vm_chk bt_154 [] vk_842 15 vc_842 0 1 = true := by decide +kernel
theorem vy_842 : vm_ents 154 15 vc_842 ve_842 = true := by decide +kernel
theorem vw_842 : ∀ q ∈ vk_842, vm_wt 1 q := vm_wts vm_kn (by decide +kernel)
theorem v_842 : vm_at 2 q_842 := vm_ok (inl := []) (es := ve_842) bq_154 (by decide) vw_842 vy_842 (fun i => vm_hc vx_842_0 rfl (fun h => absurd h (Nat.not_lt_zero _))) _ List.mem_cons_self
noncomputable def vp_843 : List vm_R := [(none, va_h168)]
noncomputable def ve_843 : List vm_E := [([.inr (.inr (some 70)), .inl (.ofNat 0, .ofNat 0), .inl (.ofNat 4, .ofNat 4)], va_h168, 0, [0])]
noncomputable def q_843 : vm_Q := (154, [.inr (.inr (some 70)), .inl (.ofNat 0, .ofNat 0), .inl (.ofNat 4, .ofNat 4)], va_h168, vp_843)
noncomputable def vk_843 : List vm_U := []
noncomputable def vf_843 : List ((Nat → am_I) → vm_A) := [fun v => (0, [(0, .inr (.inr (some 70))), (1, .inl (.ofNat 0, .ofNat 0)), (2, .inl (.ofNat 4, .ofNat 4))], [], (80, [(62, va_c53)]))]
noncomputable def vd_843_0_0 : List (List Nat) := [[0]]
noncomputable def vd_843_0 : List (List (List Nat)) := [vd_843_0_0]
noncomputable def vd_843 : List (List (List (List Nat))) := [vd_843_0]
noncomputable def vt_843 : List (List am_I) := []
noncomputable def vc_843 : vm_C := (fun _ => vp_843, fun pc => [], [], 1, vm_inst 8 1 vt_843 vf_843 vd_843)
theorem vx_843_0 : vm_chk bt_154 [] vk_843 8 vc_843 0 1 = true := by decide +kernel
theorem vy_843 : vm_ents 154 8 vc_843 ve_843 = true := by decide +kernel
theorem vw_843 : ∀ q ∈ vk_843, vm_wt 1 q := vm_wts vm_kn (by decide +kernel)
theorem v_843 : vm_at 2 q_843 := vm_ok (inl := []) (es := ve_843) bq_154 (by decide) vw_843 vy_843 (fun i => vm_hc vx_843_0 rfl (fun h => absurd h (Nat.not_lt_zero _))) _ List.mem_cons_self
noncomputable def vp_844 : List vm_R := [(none, va_h167)]
noncomputable def ve_844 : List vm_E := [([.inr (.inr (some 70)), .inl (.ofNat 1, .ofNat 1), .inl (.ofNat 4, .ofNat 4)], va_h167, 0, [0])]
noncomputable def q_844 : vm_Q := (154, [.inr (.inr (some 70)), .inl (.ofNat 1, .ofNat 1), .inl (.ofNat 4, .ofNat 4)], va_h167, vp_844)
noncomputable def vk_844 : List vm_U := []
noncomputable def vf_844 : List ((Nat → am_I) → vm_A) := [fun v => (0, [(0, .inr (.inr (some 70))), (1, .inl (.ofNat 1, .ofNat 1)), (2, .inl (.ofNat 4, .ofNat 4))], [], (80, [(62, va_c52)]))]
noncomputable def vd_844_0_0 : List (List Nat) := [[0]]
noncomputable def vd_844_0 : List (List (List Nat)) := [vd_844_0_0]
noncomputable def vd_844 : List (List (List (List Nat))) := [vd_844_0]
noncomputable def vt_844 : List (List am_I) := []
noncomputable def vc_844 : vm_C := (fun _ => vp_844, fun pc => [], [], 1, vm_inst 8 1 vt_844 vf_844 vd_844)
theorem vx_844_0 : vm_chk bt_154 [] vk_844 5 vc_844 0 1 = true := by decide +kernel
theorem vy_844 : vm_ents 154 5 vc_844 ve_844 = true := by decide +kernel
theorem vw_844 : ∀ q ∈ vk_844, vm_wt 1 q := vm_wts vm_kn (by decide +kernel)
theorem v_844 : vm_at 2 q_844 := vm_ok (inl := []) (es := ve_844) bq_154 (by decide) vw_844 vy_844 (fun i => vm_hc vx_844_0 rfl (fun h => absurd h (Nat.not_lt_zero _))) _ List.mem_cons_self
noncomputable def vp_845 : List vm_R := [(none, va_h168)]
noncomputable def ve_845 : List vm_E := [([.inr (.inr (some 70)), .inl (.ofNat 1, .ofNat 1), .inl (.ofNat 4, .ofNat 4)], va_h168, 0, [0])]
noncomputable def q_845 : vm_Q := (154, [.inr (.inr (some 70)), .inl (.ofNat 1, .ofNat 1), .inl (.ofNat 4, .ofNat 4)], va_h168, vp_845)
noncomputable def vk_845 : List vm_U := []
noncomputable def vf_845 : List ((Nat → am_I) → vm_A) := [fun v => (0, [(0, .inr (.inr (some 70))), (1, .inl (.ofNat 1, .ofNat 1)), (2, .inl (.ofNat 4, .ofNat 4))], [], (80, [(62, va_c53)]))]
noncomputable def vd_845_0_0 : List (List Nat) := [[0]]
noncomputable def vd_845_0 : List (List (List Nat)) := [vd_845_0_0]
noncomputable def vd_845 : List (List (List (List Nat))) := [vd_845_0]
noncomputable def vt_845 : List (List am_I) := []
noncomputable def vc_845 : vm_C := (fun _ => vp_845, fun pc => [], [], 1, vm_inst 8 1 vt_845 vf_845 vd_845)
theorem vx_845_0 : vm_chk bt_154 [] vk_845 5 vc_845 0 1 = true := by decide +kernel
theorem vy_845 : vm_ents 154 5 vc_845 ve_845 = true := by decide +kernel
theorem vw_845 : ∀ q ∈ vk_845, vm_wt 1 q := vm_wts vm_kn (by decide +kernel)
theorem v_845 : vm_at 2 q_845 := vm_ok (inl := []) (es := ve_845) bq_154 (by decide) vw_845 vy_845 (fun i => vm_hc vx_845_0 rfl (fun h => absurd h (Nat.not_lt_zero _))) _ List.mem_cons_self
noncomputable def vp_846 : List vm_R := [(none, va_h171), (none, va_h167)]
noncomputable def ve_846 : List vm_E := [([.inr (.inr (some 70)), .inl (.ofNat 0, .ofNat 1), .inl (.ofNat 4, .ofNat 4)], va_h167, 0, [0])]
noncomputable def q_846 : vm_Q := (154, [.inr (.inr (some 70)), .inl (.ofNat 0, .ofNat 1), .inl (.ofNat 4, .ofNat 4)], va_h167, vp_846)
noncomputable def vk_846 : List vm_U := []
noncomputable def vf_846 : List ((Nat → am_I) → vm_A) := [fun v => (0, [(0, .inr (.inr (some 70))), (1, .inl (.ofNat 0, .ofNat 1)), (2, .inl (.ofNat 4, .ofNat 4))], [], (80, [(62, va_c52)]))]
noncomputable def vd_846_0_0 : List (List Nat) := [[0]]
noncomputable def vd_846_0 : List (List (List Nat)) := [vd_846_0_0]
noncomputable def vd_846 : List (List (List (List Nat))) := [vd_846_0]
noncomputable def vt_846 : List (List am_I) := []
noncomputable def vc_846 : vm_C := (fun _ => vp_846, fun pc => [], [], 1, vm_inst 8 1 vt_846 vf_846 vd_846)
theorem vx_846_0 : vm_chk bt_154 [] vk_846 15 vc_846 0 1 = true := by decide +kernel
theorem vy_846 : vm_ents 154 15 vc_846 ve_846 = true := by decide +kernel
theorem vw_846 : ∀ q ∈ vk_846, vm_wt 1 q := vm_wts vm_kn (by decide +kernel)
theorem v_846 : vm_at 2 q_846 := vm_ok (inl := []) (es := ve_846) bq_154 (by decide) vw_846 vy_846 (fun i => vm_hc vx_846_0 rfl (fun h => absurd h (Nat.not_lt_zero _))) _ List.mem_cons_self
noncomputable def vp_847 : List vm_R := [(none, va_h168)]
noncomputable def ve_847 : List vm_E := [([.inr (.inr (some 70)), .inl (.ofNat 0, .ofNat 1), .inl (.ofNat 4, .ofNat 4)], va_h168, 0, [0])]
noncomputable def q_847 : vm_Q := (154, [.inr (.inr (some 70)), .inl (.ofNat 0, .ofNat 1), .inl (.ofNat 4, .ofNat 4)], va_h168, vp_847)
noncomputable def vk_847 : List vm_U := []
noncomputable def vf_847 : List ((Nat → am_I) → vm_A) := [fun v => (0, [(0, .inr (.inr (some 70))), (1, .inl (.ofNat 0, .ofNat 1)), (2, .inl (.ofNat 4, .ofNat 4))], [], (80, [(62, va_c53)]))]
noncomputable def vd_847_0_0 : List (List Nat) := [[0]]
noncomputable def vd_847_0 : List (List (List Nat)) := [vd_847_0_0]
noncomputable def vd_847 : List (List (List (List Nat))) := [vd_847_0]
noncomputable def vt_847 : List (List am_I) := []
noncomputable def vc_847 : vm_C := (fun _ => vp_847, fun pc => [], [], 1, vm_inst 8 1 vt_847 vf_847 vd_847)
theorem vx_847_0 : vm_chk bt_154 [] vk_847 8 vc_847 0 1 = true := by decide +kernel
theorem vy_847 : vm_ents 154 8 vc_847 ve_847 = true := by decide +kernel
theorem vw_847 : ∀ q ∈ vk_847, vm_wt 1 q := vm_wts vm_kn (by decide +kernel)
theorem v_847 : vm_at 2 q_847 := vm_ok (inl := []) (es := ve_847) bq_154 (by decide) vw_847 vy_847 (fun i => vm_hc vx_847_0 rfl (fun h => absurd h (Nat.not_lt_zero _))) _ List.mem_cons_self
noncomputable def va_c57 : am_C := .inr (.inr (.inr (7, [.inr (.inr (some 71)), .inr (.inr (some 72)), .inl (.ofNat 2, .ofNat 5), .inl (.ofNat 2, .ofNat 5), .inl (.ofNat 0, .ofNat 5), .inr (.inr (some 73)), .inl (.ofNat 2, .ofNat 5), .inl (.ofNat 2, .ofNat 5), .inl (.ofNat 0, .ofNat 5), .inl am_top, .inl am_top, .inl am_top, .inr (.inr (some 74)), .inl (.ofNat 0, .ofNat 160), .inl (.ofNat 0, .ofNat 160), .inl (.ofNat 0, .ofNat 160), .inl (.ofNat 0, .ofNat 3), .inl am_top, .inl (.ofNat 5, .ofNat 5), .inl (.ofNat 0, .ofNat 160), .inr (.inr (some 75)), .inr (.inr (some 76)), .inr (.inr (some 77)), .inr (.inr (some 78)), .inr (.inr (some 79)), .inr (.inr (some 80)), .inr (.inr (some 81)), .inl (.negSucc 0, .ofNat 6), .inr (.inr (some 82)), .inr (.inr (some 83)), .inr (.inr (some 84)), .inr (.inr (some 85)), .inr (.inr (some 86)), .inl am_top, .inr (.inr (some 87))])))
noncomputable def va_h172 : am_H := (80, [(62, va_c57)])
noncomputable def vp_848 : List vm_R := [(none, va_h172)]
noncomputable def ve_848 : List vm_E := [([.inr (.inr (some 70)), .inl (.ofNat 0, .ofNat 0), .inl (.ofNat 5, .ofNat 5)], va_h167, 0, [0])]
noncomputable def q_848 : vm_Q := (154, [.inr (.inr (some 70)), .inl (.ofNat 0, .ofNat 0), .inl (.ofNat 5, .ofNat 5)], va_h167, vp_848)
noncomputable def vk_848 : List vm_U := []
noncomputable def vf_848 : List ((Nat → am_I) → vm_A) := [fun v => (0, [(0, .inr (.inr (some 70))), (1, .inl (.ofNat 0, .ofNat 0)), (2, .inl (.ofNat 5, .ofNat 5))], [], (80, [(62, va_c52)]))]
noncomputable def vd_848_0_0 : List (List Nat) := [[0]]
noncomputable def vd_848_0 : List (List (List Nat)) := [vd_848_0_0]
noncomputable def vd_848 : List (List (List (List Nat))) := [vd_848_0]
noncomputable def vt_848 : List (List am_I) := []
noncomputable def vc_848 : vm_C := (fun _ => vp_848, fun pc => [], [], 1, vm_inst 8 1 vt_848 vf_848 vd_848)
theorem vx_848_0 : vm_chk bt_154 [] vk_848 15 vc_848 0 1 = true := by decide +kernel
theorem vy_848 : vm_ents 154 15 vc_848 ve_848 = true := by decide +kernel
theorem vw_848 : ∀ q ∈ vk_848, vm_wt 1 q := vm_wts vm_kn (by decide +kernel)
theorem v_848 : vm_at 2 q_848 := vm_ok (inl := []) (es := ve_848) bq_154 (by decide) vw_848 vy_848 (fun i => vm_hc vx_848_0 rfl (fun h => absurd h (Nat.not_lt_zero _))) _ List.mem_cons_self
noncomputable def vp_849 : List vm_R := [(none, va_h168)]
noncomputable def ve_849 : List vm_E := [([.inr (.inr (some 70)), .inl (.ofNat 0, .ofNat 0), .inl (.ofNat 5, .ofNat 5)], va_h168, 0, [0])]
noncomputable def q_849 : vm_Q := (154, [.inr (.inr (some 70)), .inl (.ofNat 0, .ofNat 0), .inl (.ofNat 5, .ofNat 5)], va_h168, vp_849)
noncomputable def vk_849 : List vm_U := []
noncomputable def vf_849 : List ((Nat → am_I) → vm_A) := [fun v => (0, [(0, .inr (.inr (some 70))), (1, .inl (.ofNat 0, .ofNat 0)), (2, .inl (.ofNat 5, .ofNat 5))], [], (80, [(62, va_c53)]))]
noncomputable def vd_849_0_0 : List (List Nat) := [[0]]
noncomputable def vd_849_0 : List (List (List Nat)) := [vd_849_0_0]
noncomputable def vd_849 : List (List (List (List Nat))) := [vd_849_0]
noncomputable def vt_849 : List (List am_I) := []
noncomputable def vc_849 : vm_C := (fun _ => vp_849, fun pc => [], [], 1, vm_inst 8 1 vt_849 vf_849 vd_849)
theorem vx_849_0 : vm_chk bt_154 [] vk_849 8 vc_849 0 1 = true := by decide +kernel
theorem vy_849 : vm_ents 154 8 vc_849 ve_849 = true := by decide +kernel
theorem vw_849 : ∀ q ∈ vk_849, vm_wt 1 q := vm_wts vm_kn (by decide +kernel)
theorem v_849 : vm_at 2 q_849 := vm_ok (inl := []) (es := ve_849) bq_154 (by decide) vw_849 vy_849 (fun i => vm_hc vx_849_0 rfl (fun h => absurd h (Nat.not_lt_zero _))) _ List.mem_cons_self
noncomputable def vp_850 : List vm_R := [(none, va_h167)]
noncomputable def ve_850 : List vm_E := [([.inr (.inr (some 70)), .inl (.ofNat 1, .ofNat 1), .inl (.ofNat 5, .ofNat 5)], va_h167, 0, [0])]
noncomputable def q_850 : vm_Q := (154, [.inr (.inr (some 70)), .inl (.ofNat 1, .ofNat 1), .inl (.ofNat 5, .ofNat 5)], va_h167, vp_850)
noncomputable def vk_850 : List vm_U := []
noncomputable def vf_850 : List ((Nat → am_I) → vm_A) := [fun v => (0, [(0, .inr (.inr (some 70))), (1, .inl (.ofNat 1, .ofNat 1)), (2, .inl (.ofNat 5, .ofNat 5))], [], (80, [(62, va_c52)]))]
noncomputable def vd_850_0_0 : List (List Nat) := [[0]]
noncomputable def vd_850_0 : List (List (List Nat)) := [vd_850_0_0]
noncomputable def vd_850 : List (List (List (List Nat))) := [vd_850_0]
noncomputable def vt_850 : List (List am_I) := []
noncomputable def vc_850 : vm_C := (fun _ => vp_850, fun pc => [], [], 1, vm_inst 8 1 vt_850 vf_850 vd_850)
theorem vx_850_0 : vm_chk bt_154 [] vk_850 5 vc_850 0 1 = true := by decide +kernel
theorem vy_850 : vm_ents 154 5 vc_850 ve_850 = true := by decide +kernel
theorem vw_850 : ∀ q ∈ vk_850, vm_wt 1 q := vm_wts vm_kn (by decide +kernel)
theorem v_850 : vm_at 2 q_850 := vm_ok (inl := []) (es := ve_850) bq_154 (by decide) vw_850 vy_850 (fun i => vm_hc vx_850_0 rfl (fun h => absurd h (Nat.not_lt_zero _))) _ List.mem_cons_self
noncomputable def vp_851 : List vm_R := [(none, va_h168)]
noncomputable def ve_851 : List vm_E := [([.inr (.inr (some 70)), .inl (.ofNat 1, .ofNat 1), .inl (.ofNat 5, .ofNat 5)], va_h168, 0, [0])]
noncomputable def q_851 : vm_Q := (154, [.inr (.inr (some 70)), .inl (.ofNat 1, .ofNat 1), .inl (.ofNat 5, .ofNat 5)], va_h168, vp_851)
noncomputable def vk_851 : List vm_U := []
noncomputable def vf_851 : List ((Nat → am_I) → vm_A) := [fun v => (0, [(0, .inr (.inr (some 70))), (1, .inl (.ofNat 1, .ofNat 1)), (2, .inl (.ofNat 5, .ofNat 5))], [], (80, [(62, va_c53)]))]
noncomputable def vd_851_0_0 : List (List Nat) := [[0]]
noncomputable def vd_851_0 : List (List (List Nat)) := [vd_851_0_0]
noncomputable def vd_851 : List (List (List (List Nat))) := [vd_851_0]
noncomputable def vt_851 : List (List am_I) := []
noncomputable def vc_851 : vm_C := (fun _ => vp_851, fun pc => [], [], 1, vm_inst 8 1 vt_851 vf_851 vd_851)
theorem vx_851_0 : vm_chk bt_154 [] vk_851 5 vc_851 0 1 = true := by decide +kernel
theorem vy_851 : vm_ents 154 5 vc_851 ve_851 = true := by decide +kernel
theorem vw_851 : ∀ q ∈ vk_851, vm_wt 1 q := vm_wts vm_kn (by decide +kernel)
theorem v_851 : vm_at 2 q_851 := vm_ok (inl := []) (es := ve_851) bq_154 (by decide) vw_851 vy_851 (fun i => vm_hc vx_851_0 rfl (fun h => absurd h (Nat.not_lt_zero _))) _ List.mem_cons_self
noncomputable def vp_852 : List vm_R := [(none, va_h172), (none, va_h167)]
noncomputable def ve_852 : List vm_E := [([.inr (.inr (some 70)), .inl (.ofNat 0, .ofNat 1), .inl (.ofNat 5, .ofNat 5)], va_h167, 0, [0])]
noncomputable def q_852 : vm_Q := (154, [.inr (.inr (some 70)), .inl (.ofNat 0, .ofNat 1), .inl (.ofNat 5, .ofNat 5)], va_h167, vp_852)
noncomputable def vk_852 : List vm_U := []
noncomputable def vf_852 : List ((Nat → am_I) → vm_A) := [fun v => (0, [(0, .inr (.inr (some 70))), (1, .inl (.ofNat 0, .ofNat 1)), (2, .inl (.ofNat 5, .ofNat 5))], [], (80, [(62, va_c52)]))]
noncomputable def vd_852_0_0 : List (List Nat) := [[0]]
noncomputable def vd_852_0 : List (List (List Nat)) := [vd_852_0_0]
noncomputable def vd_852 : List (List (List (List Nat))) := [vd_852_0]
noncomputable def vt_852 : List (List am_I) := []
noncomputable def vc_852 : vm_C := (fun _ => vp_852, fun pc => [], [], 1, vm_inst 8 1 vt_852 vf_852 vd_852)
theorem vx_852_0 : vm_chk bt_154 [] vk_852 15 vc_852 0 1 = true := by decide +kernel
theorem vy_852 : vm_ents 154 15 vc_852 ve_852 = true := by decide +kernel
theorem vw_852 : ∀ q ∈ vk_852, vm_wt 1 q := vm_wts vm_kn (by decide +kernel)
theorem v_852 : vm_at 2 q_852 := vm_ok (inl := []) (es := ve_852) bq_154 (by decide) vw_852 vy_852 (fun i => vm_hc vx_852_0 rfl (fun h => absurd h (Nat.not_lt_zero _))) _ List.mem_cons_self
noncomputable def vp_853 : List vm_R := [(none, va_h168)]
noncomputable def ve_853 : List vm_E := [([.inr (.inr (some 70)), .inl (.ofNat 0, .ofNat 1), .inl (.ofNat 5, .ofNat 5)], va_h168, 0, [0])]
noncomputable def q_853 : vm_Q := (154, [.inr (.inr (some 70)), .inl (.ofNat 0, .ofNat 1), .inl (.ofNat 5, .ofNat 5)], va_h168, vp_853)
noncomputable def vk_853 : List vm_U := []
noncomputable def vf_853 : List ((Nat → am_I) → vm_A) := [fun v => (0, [(0, .inr (.inr (some 70))), (1, .inl (.ofNat 0, .ofNat 1)), (2, .inl (.ofNat 5, .ofNat 5))], [], (80, [(62, va_c53)]))]
noncomputable def vd_853_0_0 : List (List Nat) := [[0]]
noncomputable def vd_853_0 : List (List (List Nat)) := [vd_853_0_0]
noncomputable def vd_853 : List (List (List (List Nat))) := [vd_853_0]
noncomputable def vt_853 : List (List am_I) := []
noncomputable def vc_853 : vm_C := (fun _ => vp_853, fun pc => [], [], 1, vm_inst 8 1 vt_853 vf_853 vd_853)
theorem vx_853_0 : vm_chk bt_154 [] vk_853 8 vc_853 0 1 = true := by decide +kernel
theorem vy_853 : vm_ents 154 8 vc_853 ve_853 = true := by decide +kernel
theorem vw_853 : ∀ q ∈ vk_853, vm_wt 1 q := vm_wts vm_kn (by decide +kernel)
theorem v_853 : vm_at 2 q_853 := vm_ok (inl := []) (es := ve_853) bq_154 (by decide) vw_853 vy_853 (fun i => vm_hc vx_853_0 rfl (fun h => absurd h (Nat.not_lt_zero _))) _ List.mem_cons_self
noncomputable def va_c58 : am_C := .inr (.inr (.inr (7, [.inr (.inr (some 71)), .inr (.inr (some 72)), .inl (.ofNat 2, .ofNat 5), .inl (.ofNat 2, .ofNat 5), .inl (.ofNat 0, .ofNat 5), .inr (.inr (some 73)), .inl (.ofNat 2, .ofNat 5), .inl (.ofNat 2, .ofNat 5), .inl (.ofNat 0, .ofNat 5), .inl am_top, .inl am_top, .inl am_top, .inr (.inr (some 74)), .inl (.ofNat 0, .ofNat 160), .inl (.ofNat 0, .ofNat 160), .inl (.ofNat 0, .ofNat 160), .inl (.ofNat 0, .ofNat 3), .inl am_top, .inl (.ofNat 6, .ofNat 6), .inl (.ofNat 0, .ofNat 160), .inr (.inr (some 75)), .inr (.inr (some 76)), .inr (.inr (some 77)), .inr (.inr (some 78)), .inr (.inr (some 79)), .inr (.inr (some 80)), .inr (.inr (some 81)), .inl (.negSucc 0, .ofNat 6), .inr (.inr (some 82)), .inr (.inr (some 83)), .inr (.inr (some 84)), .inr (.inr (some 85)), .inr (.inr (some 86)), .inl am_top, .inr (.inr (some 87))])))
noncomputable def va_h173 : am_H := (80, [(62, va_c58)])
noncomputable def vp_854 : List vm_R := [(none, va_h173)]
noncomputable def ve_854 : List vm_E := [([.inr (.inr (some 70)), .inl (.ofNat 0, .ofNat 0), .inl (.ofNat 6, .ofNat 6)], va_h167, 0, [0])]
noncomputable def q_854 : vm_Q := (154, [.inr (.inr (some 70)), .inl (.ofNat 0, .ofNat 0), .inl (.ofNat 6, .ofNat 6)], va_h167, vp_854)
noncomputable def vk_854 : List vm_U := []
noncomputable def vf_854 : List ((Nat → am_I) → vm_A) := [fun v => (0, [(0, .inr (.inr (some 70))), (1, .inl (.ofNat 0, .ofNat 0)), (2, .inl (.ofNat 6, .ofNat 6))], [], (80, [(62, va_c52)]))]
noncomputable def vd_854_0_0 : List (List Nat) := [[0]]
noncomputable def vd_854_0 : List (List (List Nat)) := [vd_854_0_0]
noncomputable def vd_854 : List (List (List (List Nat))) := [vd_854_0]
noncomputable def vt_854 : List (List am_I) := []
noncomputable def vc_854 : vm_C := (fun _ => vp_854, fun pc => [], [], 1, vm_inst 8 1 vt_854 vf_854 vd_854)
theorem vx_854_0 : vm_chk bt_154 [] vk_854 15 vc_854 0 1 = true := by decide +kernel
theorem vy_854 : vm_ents 154 15 vc_854 ve_854 = true := by decide +kernel
theorem vw_854 : ∀ q ∈ vk_854, vm_wt 1 q := vm_wts vm_kn (by decide +kernel)
theorem v_854 : vm_at 2 q_854 := vm_ok (inl := []) (es := ve_854) bq_154 (by decide) vw_854 vy_854 (fun i => vm_hc vx_854_0 rfl (fun h => absurd h (Nat.not_lt_zero _))) _ List.mem_cons_self
noncomputable def vp_855 : List vm_R := [(none, va_h168)]
noncomputable def ve_855 : List vm_E := [([.inr (.inr (some 70)), .inl (.ofNat 0, .ofNat 0), .inl (.ofNat 6, .ofNat 6)], va_h168, 0, [0])]
noncomputable def q_855 : vm_Q := (154, [.inr (.inr (some 70)), .inl (.ofNat 0, .ofNat 0), .inl (.ofNat 6, .ofNat 6)], va_h168, vp_855)
noncomputable def vk_855 : List vm_U := []
noncomputable def vf_855 : List ((Nat → am_I) → vm_A) := [fun v => (0, [(0, .inr (.inr (some 70))), (1, .inl (.ofNat 0, .ofNat 0)), (2, .inl (.ofNat 6, .ofNat 6))], [], (80, [(62, va_c53)]))]
noncomputable def vd_855_0_0 : List (List Nat) := [[0]]
noncomputable def vd_855_0 : List (List (List Nat)) := [vd_855_0_0]
noncomputable def vd_855 : List (List (List (List Nat))) := [vd_855_0]
noncomputable def vt_855 : List (List am_I) := []
noncomputable def vc_855 : vm_C := (fun _ => vp_855, fun pc => [], [], 1, vm_inst 8 1 vt_855 vf_855 vd_855)
theorem vx_855_0 : vm_chk bt_154 [] vk_855 8 vc_855 0 1 = true := by decide +kernel
theorem vy_855 : vm_ents 154 8 vc_855 ve_855 = true := by decide +kernel
theorem vw_855 : ∀ q ∈ vk_855, vm_wt 1 q := vm_wts vm_kn (by decide +kernel)
theorem v_855 : vm_at 2 q_855 := vm_ok (inl := []) (es := ve_855) bq_154 (by decide) vw_855 vy_855 (fun i => vm_hc vx_855_0 rfl (fun h => absurd h (Nat.not_lt_zero _))) _ List.mem_cons_self
noncomputable def vp_856 : List vm_R := [(none, va_h167)]
noncomputable def ve_856 : List vm_E := [([.inr (.inr (some 70)), .inl (.ofNat 1, .ofNat 1), .inl (.ofNat 6, .ofNat 6)], va_h167, 0, [0])]
noncomputable def q_856 : vm_Q := (154, [.inr (.inr (some 70)), .inl (.ofNat 1, .ofNat 1), .inl (.ofNat 6, .ofNat 6)], va_h167, vp_856)
noncomputable def vk_856 : List vm_U := []
noncomputable def vf_856 : List ((Nat → am_I) → vm_A) := [fun v => (0, [(0, .inr (.inr (some 70))), (1, .inl (.ofNat 1, .ofNat 1)), (2, .inl (.ofNat 6, .ofNat 6))], [], (80, [(62, va_c52)]))]
noncomputable def vd_856_0_0 : List (List Nat) := [[0]]
noncomputable def vd_856_0 : List (List (List Nat)) := [vd_856_0_0]
noncomputable def vd_856 : List (List (List (List Nat))) := [vd_856_0]
noncomputable def vt_856 : List (List am_I) := []
noncomputable def vc_856 : vm_C := (fun _ => vp_856, fun pc => [], [], 1, vm_inst 8 1 vt_856 vf_856 vd_856)
theorem vx_856_0 : vm_chk bt_154 [] vk_856 5 vc_856 0 1 = true := by decide +kernel
theorem vy_856 : vm_ents 154 5 vc_856 ve_856 = true := by decide +kernel
theorem vw_856 : ∀ q ∈ vk_856, vm_wt 1 q := vm_wts vm_kn (by decide +kernel)
theorem v_856 : vm_at 2 q_856 := vm_ok (inl := []) (es := ve_856) bq_154 (by decide) vw_856 vy_856 (fun i => vm_hc vx_856_0 rfl (fun h => absurd h (Nat.not_lt_zero _))) _ List.mem_cons_self
noncomputable def vp_857 : List vm_R := [(none, va_h168)]
noncomputable def ve_857 : List vm_E := [([.inr (.inr (some 70)), .inl (.ofNat 1, .ofNat 1), .inl (.ofNat 6, .ofNat 6)], va_h168, 0, [0])]
noncomputable def q_857 : vm_Q := (154, [.inr (.inr (some 70)), .inl (.ofNat 1, .ofNat 1), .inl (.ofNat 6, .ofNat 6)], va_h168, vp_857)
noncomputable def vk_857 : List vm_U := []
noncomputable def vf_857 : List ((Nat → am_I) → vm_A) := [fun v => (0, [(0, .inr (.inr (some 70))), (1, .inl (.ofNat 1, .ofNat 1)), (2, .inl (.ofNat 6, .ofNat 6))], [], (80, [(62, va_c53)]))]
noncomputable def vd_857_0_0 : List (List Nat) := [[0]]
noncomputable def vd_857_0 : List (List (List Nat)) := [vd_857_0_0]
noncomputable def vd_857 : List (List (List (List Nat))) := [vd_857_0]
noncomputable def vt_857 : List (List am_I) := []
noncomputable def vc_857 : vm_C := (fun _ => vp_857, fun pc => [], [], 1, vm_inst 8 1 vt_857 vf_857 vd_857)
theorem vx_857_0 : vm_chk bt_154 [] vk_857 5 vc_857 0 1 = true := by decide +kernel
theorem vy_857 : vm_ents 154 5 vc_857 ve_857 = true := by decide +kernel
theorem vw_857 : ∀ q ∈ vk_857, vm_wt 1 q := vm_wts vm_kn (by decide +kernel)
theorem v_857 : vm_at 2 q_857 := vm_ok (inl := []) (es := ve_857) bq_154 (by decide) vw_857 vy_857 (fun i => vm_hc vx_857_0 rfl (fun h => absurd h (Nat.not_lt_zero _))) _ List.mem_cons_self
noncomputable def vp_858 : List vm_R := [(none, va_h173), (none, va_h167)]
noncomputable def ve_858 : List vm_E := [([.inr (.inr (some 70)), .inl (.ofNat 0, .ofNat 1), .inl (.ofNat 6, .ofNat 6)], va_h167, 0, [0])]
noncomputable def q_858 : vm_Q := (154, [.inr (.inr (some 70)), .inl (.ofNat 0, .ofNat 1), .inl (.ofNat 6, .ofNat 6)], va_h167, vp_858)
noncomputable def vk_858 : List vm_U := []
noncomputable def vf_858 : List ((Nat → am_I) → vm_A) := [fun v => (0, [(0, .inr (.inr (some 70))), (1, .inl (.ofNat 0, .ofNat 1)), (2, .inl (.ofNat 6, .ofNat 6))], [], (80, [(62, va_c52)]))]
noncomputable def vd_858_0_0 : List (List Nat) := [[0]]
noncomputable def vd_858_0 : List (List (List Nat)) := [vd_858_0_0]
noncomputable def vd_858 : List (List (List (List Nat))) := [vd_858_0]
noncomputable def vt_858 : List (List am_I) := []
noncomputable def vc_858 : vm_C := (fun _ => vp_858, fun pc => [], [], 1, vm_inst 8 1 vt_858 vf_858 vd_858)
theorem vx_858_0 : vm_chk bt_154 [] vk_858 15 vc_858 0 1 = true := by decide +kernel
theorem vy_858 : vm_ents 154 15 vc_858 ve_858 = true := by decide +kernel
theorem vw_858 : ∀ q ∈ vk_858, vm_wt 1 q := vm_wts vm_kn (by decide +kernel)
theorem v_858 : vm_at 2 q_858 := vm_ok (inl := []) (es := ve_858) bq_154 (by decide) vw_858 vy_858 (fun i => vm_hc vx_858_0 rfl (fun h => absurd h (Nat.not_lt_zero _))) _ List.mem_cons_self
noncomputable def vp_859 : List vm_R := [(none, va_h168)]
noncomputable def ve_859 : List vm_E := [([.inr (.inr (some 70)), .inl (.ofNat 0, .ofNat 1), .inl (.ofNat 6, .ofNat 6)], va_h168, 0, [0])]
noncomputable def q_859 : vm_Q := (154, [.inr (.inr (some 70)), .inl (.ofNat 0, .ofNat 1), .inl (.ofNat 6, .ofNat 6)], va_h168, vp_859)
noncomputable def vk_859 : List vm_U := []
noncomputable def vf_859 : List ((Nat → am_I) → vm_A) := [fun v => (0, [(0, .inr (.inr (some 70))), (1, .inl (.ofNat 0, .ofNat 1)), (2, .inl (.ofNat 6, .ofNat 6))], [], (80, [(62, va_c53)]))]
noncomputable def vd_859_0_0 : List (List Nat) := [[0]]
noncomputable def vd_859_0 : List (List (List Nat)) := [vd_859_0_0]
noncomputable def vd_859 : List (List (List (List Nat))) := [vd_859_0]
noncomputable def vt_859 : List (List am_I) := []
noncomputable def vc_859 : vm_C := (fun _ => vp_859, fun pc => [], [], 1, vm_inst 8 1 vt_859 vf_859 vd_859)
theorem vx_859_0 : vm_chk bt_154 [] vk_859 8 vc_859 0 1 = true := by decide +kernel
theorem vy_859 : vm_ents 154 8 vc_859 ve_859 = true := by decide +kernel
theorem vw_859 : ∀ q ∈ vk_859, vm_wt 1 q := vm_wts vm_kn (by decide +kernel)
theorem v_859 : vm_at 2 q_859 := vm_ok (inl := []) (es := ve_859) bq_154 (by decide) vw_859 vy_859 (fun i => vm_hc vx_859_0 rfl (fun h => absurd h (Nat.not_lt_zero _))) _ List.mem_cons_self
noncomputable def vp_860 : List vm_R := [(some (.inl (.ofNat 0, .ofNat 0)), va_h0)]
noncomputable def ve_860 : List vm_E := [([.inr (.inl (.negSucc 2147483647, .ofNat 1)), .inr (.inl (.ofNat 2, .ofNat 2)), .inr (.inl (.ofNat 5, .ofNat 5))], va_h0, 0, [0])]
noncomputable def q_860 : vm_Q := (149, [.inr (.inl (.negSucc 2147483647, .ofNat 1)), .inr (.inl (.ofNat 2, .ofNat 2)), .inr (.inl (.ofNat 5, .ofNat 5))], va_h0, vp_860)
noncomputable def vk_860 : List vm_U := []
noncomputable def vf_860 : List ((Nat → am_I) → vm_A) := [fun v => (0, [(0, .inr (.inl (.negSucc 2147483647, .ofNat 1))), (2, .inr (.inl (.ofNat 2, .ofNat 2))), (4, .inr (.inl (.ofNat 5, .ofNat 5)))], [], (80, []))]
noncomputable def vd_860_0_0 : List (List Nat) := [[0]]
noncomputable def vd_860_0 : List (List (List Nat)) := [vd_860_0_0]
noncomputable def vd_860 : List (List (List (List Nat))) := [vd_860_0]
noncomputable def vt_860 : List (List am_I) := []
noncomputable def vc_860 : vm_C := (fun _ => vp_860, fun pc => [], [], 1, vm_inst 8 1 vt_860 vf_860 vd_860)
theorem vx_860_0 : vm_chk bt_149 [] vk_860 8 vc_860 0 1 = true := by decide +kernel
theorem vy_860 : vm_ents 149 8 vc_860 ve_860 = true := by decide +kernel
theorem vw_860 : ∀ q ∈ vk_860, vm_wt 1 q := vm_wts vm_kn (by decide +kernel)
theorem v_860 : vm_at 2 q_860 := vm_ok (inl := []) (es := ve_860) bq_149 (by decide) vw_860 vy_860 (fun i => vm_hc vx_860_0 rfl (fun h => absurd h (Nat.not_lt_zero _))) _ List.mem_cons_self
noncomputable def vp_861 : List vm_R := [(some (.inl (.ofNat 1, .ofNat 1)), va_h0)]
noncomputable def ve_861 : List vm_E := [([.inr (.inl (.ofNat 2, .ofNat 5)), .inr (.inl (.ofNat 2, .ofNat 2)), .inr (.inl (.ofNat 5, .ofNat 5))], va_h0, 0, [0])]
noncomputable def q_861 : vm_Q := (149, [.inr (.inl (.ofNat 2, .ofNat 5)), .inr (.inl (.ofNat 2, .ofNat 2)), .inr (.inl (.ofNat 5, .ofNat 5))], va_h0, vp_861)
noncomputable def vk_861 : List vm_U := []
noncomputable def vf_861 : List ((Nat → am_I) → vm_A) := [fun v => (0, [(0, .inr (.inl (.ofNat 2, .ofNat 5))), (2, .inr (.inl (.ofNat 2, .ofNat 2))), (4, .inr (.inl (.ofNat 5, .ofNat 5)))], [], (80, []))]
noncomputable def vd_861_0_0 : List (List Nat) := [[0]]
noncomputable def vd_861_0 : List (List (List Nat)) := [vd_861_0_0]
noncomputable def vd_861 : List (List (List (List Nat))) := [vd_861_0]
noncomputable def vt_861 : List (List am_I) := []
noncomputable def vc_861 : vm_C := (fun _ => vp_861, fun pc => [], [], 1, vm_inst 8 1 vt_861 vf_861 vd_861)
theorem vx_861_0 : vm_chk bt_149 [] vk_861 13 vc_861 0 1 = true := by decide +kernel
theorem vy_861 : vm_ents 149 13 vc_861 ve_861 = true := by decide +kernel
theorem vw_861 : ∀ q ∈ vk_861, vm_wt 1 q := vm_wts vm_kn (by decide +kernel)
theorem v_861 : vm_at 2 q_861 := vm_ok (inl := []) (es := ve_861) bq_149 (by decide) vw_861 vy_861 (fun i => vm_hc vx_861_0 rfl (fun h => absurd h (Nat.not_lt_zero _))) _ List.mem_cons_self
noncomputable def vp_862 : List vm_R := [(some (.inl (.ofNat 0, .ofNat 0)), va_h0)]
noncomputable def ve_862 : List vm_E := [([.inr (.inl (.ofNat 6, .ofNat 2147483647)), .inr (.inl (.ofNat 2, .ofNat 2)), .inr (.inl (.ofNat 5, .ofNat 5))], va_h0, 0, [0])]
noncomputable def q_862 : vm_Q := (149, [.inr (.inl (.ofNat 6, .ofNat 2147483647)), .inr (.inl (.ofNat 2, .ofNat 2)), .inr (.inl (.ofNat 5, .ofNat 5))], va_h0, vp_862)
noncomputable def vk_862 : List vm_U := []
noncomputable def vf_862 : List ((Nat → am_I) → vm_A) := [fun v => (0, [(0, .inr (.inl (.ofNat 6, .ofNat 2147483647))), (2, .inr (.inl (.ofNat 2, .ofNat 2))), (4, .inr (.inl (.ofNat 5, .ofNat 5)))], [], (80, []))]
noncomputable def vd_862_0_0 : List (List Nat) := [[0]]
noncomputable def vd_862_0 : List (List (List Nat)) := [vd_862_0_0]
noncomputable def vd_862 : List (List (List (List Nat))) := [vd_862_0]
noncomputable def vt_862 : List (List am_I) := []
noncomputable def vc_862 : vm_C := (fun _ => vp_862, fun pc => [], [], 1, vm_inst 8 1 vt_862 vf_862 vd_862)
theorem vx_862_0 : vm_chk bt_149 [] vk_862 12 vc_862 0 1 = true := by decide +kernel
theorem vy_862 : vm_ents 149 12 vc_862 ve_862 = true := by decide +kernel
theorem vw_862 : ∀ q ∈ vk_862, vm_wt 1 q := vm_wts vm_kn (by decide +kernel)
theorem v_862 : vm_at 2 q_862 := vm_ok (inl := []) (es := ve_862) bq_149 (by decide) vw_862 vy_862 (fun i => vm_hc vx_862_0 rfl (fun h => absurd h (Nat.not_lt_zero _))) _ List.mem_cons_self
noncomputable def va_c59 : am_C := .inr (.inr (.inr (7, [.inr (.inr (some 71)), .inr (.inr (some 72)), .inl (.ofNat 2, .ofNat 5), .inl (.ofNat 2, .ofNat 5), .inl (.ofNat 0, .ofNat 5), .inr (.inr (some 73)), .inl (.ofNat 2, .ofNat 5), .inl (.ofNat 2, .ofNat 5), .inl (.ofNat 0, .ofNat 5), .inl am_top, .inl am_top, .inl am_top, .inr (.inr (some 74)), .inl (.ofNat 0, .ofNat 160), .inl (.ofNat 0, .ofNat 160), .inl (.ofNat 0, .ofNat 160), .inl (.ofNat 0, .ofNat 3), .inl am_top, .inl (.ofNat 2, .ofNat 3), .inl (.ofNat 0, .ofNat 160), .inr (.inr (some 75)), .inr (.inr (some 76)), .inr (.inr (some 77)), .inr (.inr (some 78)), .inr (.inr (some 79)), .inr (.inr (some 80)), .inr (.inr (some 81)), .inl (.negSucc 0, .ofNat 6), .inr (.inr (some 82)), .inr (.inr (some 83)), .inr (.inr (some 84)), .inr (.inr (some 85)), .inr (.inr (some 86)), .inl am_top, .inr (.inr (some 87))])))
noncomputable def va_h174 : am_H := (80, [(62, va_c59)])
noncomputable def va_c60 : am_C := .inr (.inr (.inr (7, [.inr (.inr (some 71)), .inr (.inr (some 72)), .inl (.ofNat 2, .ofNat 5), .inl (.ofNat 2, .ofNat 5), .inl (.ofNat 0, .ofNat 5), .inr (.inr (some 73)), .inl (.ofNat 2, .ofNat 5), .inl (.ofNat 2, .ofNat 5), .inl (.ofNat 0, .ofNat 5), .inl am_top, .inl am_top, .inl am_top, .inr (.inr (some 74)), .inl (.ofNat 0, .ofNat 160), .inl (.ofNat 0, .ofNat 160), .inl (.ofNat 0, .ofNat 160), .inl (.ofNat 0, .ofNat 3), .inl (.ofNat 2, .ofNat 5), .inl (.ofNat 0, .ofNat 0), .inl am_top, .inr (.inr (some 75)), .inr (.inr (some 76)), .inr (.inr (some 77)), .inr (.inr (some 78)), .inr (.inr (some 79)), .inr (.inr (some 80)), .inr (.inr (some 81)), .inl (.negSucc 0, .ofNat 6), .inr (.inr (some 82)), .inr (.inr (some 83)), .inr (.inr (some 84)), .inr (.inr (some 85)), .inr (.inr (some 86)), .inl am_top, .inr (.inr (some 87))])))
noncomputable def va_h175 : am_H := (80, [(62, va_c60)])
noncomputable def vp_863 : List vm_R := [(some (.inl (.ofNat 0, .ofNat 0)), va_h174), (some (.inl (.ofNat 2, .ofNat 5)), va_h175)]
noncomputable def ve_863 : List vm_E := [([.inr (.inr (some 70)), .inl (.ofNat 2, .ofNat 2), .inl (.ofNat 5, .ofNat 5)], va_h167, 0, [0, 1, 2])]
noncomputable def q_863 : vm_Q := (161, [.inr (.inr (some 70)), .inl (.ofNat 2, .ofNat 2), .inl (.ofNat 5, .ofNat 5)], va_h167, vp_863)
noncomputable def vk_863 : List vm_U := [(q_861, true, []), (q_862, true, []), (q_860, true, []), (q_830, false, [(7, 62, 17)]), (q_832, false, [(7, 62, 17)]), (q_836, false, [(7, 62, 17)]), (q_838, false, [(7, 62, 17)])]
noncomputable def vf_863 : List ((Nat → am_I) → vm_A) := [fun v => (0, [(0, .inr (.inr (some 70))), (1, .inl (.ofNat 2, .ofNat 2)), (2, .inl (.ofNat 5, .ofNat 5))], [], (80, [(62, .inr (.inr (.inr (7, [.inr (.inr (some 71)), .inr (.inr (some 72)), .inl (.ofNat 2, .ofNat 5), .inl (.ofNat 2, .ofNat 5), .inl (.ofNat 0, .ofNat 5), .inr (.inr (some 73)), .inl (.ofNat 2, .ofNat 5), .inl (.ofNat 2, .ofNat 5), .inl (.ofNat 0, .ofNat 5), .inl am_top, .inl am_top, .inl am_top, .inr (.inr (some 74)), .inl (.ofNat 0, .ofNat 160), .inl (.ofNat 0, .ofNat 160), .inl (.ofNat 0, .ofNat 160), .inl (.ofNat 0, .ofNat 3), .inl (v 0), .inl (.ofNat 0, .ofNat 0), .inl am_top, .inr (.inr (some 75)), .inr (.inr (some 76)), .inr (.inr (some 77)), .inr (.inr (some 78)), .inr (.inr (some 79)), .inr (.inr (some 80)), .inr (.inr (some 81)), .inl (.negSucc 0, .ofNat 6), .inr (.inr (some 82)), .inr (.inr (some 83)), .inr (.inr (some 84)), .inr (.inr (some 85)), .inr (.inr (some 86)), .inl am_top, .inr (.inr (some 87))]))))]))]
noncomputable def vd_863_0_0 : List (List Nat) := [[16777216, 33554432, 50331648]]
noncomputable def vd_863_0 : List (List (List Nat)) := [vd_863_0_0]
noncomputable def vd_863 : List (List (List (List Nat))) := [vd_863_0]
noncomputable def vt_863 : List (List am_I) := [[(.ofNat 6, .ofNat 2147483647), (.ofNat 2, .ofNat 5), (.negSucc 2147483647, .ofNat 1)]]
noncomputable def vc_863 : vm_C := (fun _ => vp_863, fun pc => (match Nat.beq pc 0 with
  | true => [(fun _ _ => some (.inr (62, 17)), fun _ _ => some [.ofNat 2, .ofNat 6])]
  | false => []), [], 3, vm_inst 8 1 vt_863 vf_863 vd_863)
theorem vx_863_0 : vm_chk bt_161 [] vk_863 35 vc_863 0 3 = true := by decide +kernel
theorem vy_863 : vm_ents 161 35 vc_863 ve_863 = true := by decide +kernel
theorem vw_863 : ∀ q ∈ vk_863, vm_wt 2 q := vm_wts (vm_kc (vm_up v_861 rfl) (vm_kc (vm_up v_862 rfl) (vm_kc (vm_up v_860 rfl) (vm_kc (vm_up v_830 rfl) (vm_kc (vm_up v_832 rfl) (vm_kc (vm_up v_836 rfl) (vm_kc (vm_up v_838 rfl) vm_kn))))))) (by decide +kernel)
theorem v_863 : vm_at 3 q_863 := vm_ok (inl := []) (es := ve_863) bq_161 (by decide) vw_863 vy_863 (fun i => vm_hc vx_863_0 rfl (fun h => absurd h (Nat.not_lt_zero _))) _ List.mem_cons_self
noncomputable def vp_864 : List vm_R := [(some (.inl (.ofNat 0, .ofNat 0)), va_h0)]
noncomputable def ve_864 : List vm_E := [([.inr (.inl (.negSucc 2147483647, .negSucc 0)), .inr (.inl (.ofNat 0, .ofNat 0)), .inr (.inl (.ofNat 9, .ofNat 9))], va_h0, 0, [0])]
noncomputable def q_864 : vm_Q := (149, [.inr (.inl (.negSucc 2147483647, .negSucc 0)), .inr (.inl (.ofNat 0, .ofNat 0)), .inr (.inl (.ofNat 9, .ofNat 9))], va_h0, vp_864)
noncomputable def vk_864 : List vm_U := []
noncomputable def vf_864 : List ((Nat → am_I) → vm_A) := [fun v => (0, [(0, .inr (.inl (.negSucc 2147483647, .negSucc 0))), (2, .inr (.inl (.ofNat 0, .ofNat 0))), (4, .inr (.inl (.ofNat 9, .ofNat 9)))], [], (80, []))]
noncomputable def vd_864_0_0 : List (List Nat) := [[0]]
noncomputable def vd_864_0 : List (List (List Nat)) := [vd_864_0_0]
noncomputable def vd_864 : List (List (List (List Nat))) := [vd_864_0]
noncomputable def vt_864 : List (List am_I) := []
noncomputable def vc_864 : vm_C := (fun _ => vp_864, fun pc => [], [], 1, vm_inst 8 1 vt_864 vf_864 vd_864)
theorem vx_864_0 : vm_chk bt_149 [] vk_864 8 vc_864 0 1 = true := by decide +kernel
theorem vy_864 : vm_ents 149 8 vc_864 ve_864 = true := by decide +kernel
theorem vw_864 : ∀ q ∈ vk_864, vm_wt 1 q := vm_wts vm_kn (by decide +kernel)
theorem v_864 : vm_at 2 q_864 := vm_ok (inl := []) (es := ve_864) bq_149 (by decide) vw_864 vy_864 (fun i => vm_hc vx_864_0 rfl (fun h => absurd h (Nat.not_lt_zero _))) _ List.mem_cons_self
noncomputable def vp_865 : List vm_R := [(some (.inl (.ofNat 1, .ofNat 1)), va_h0)]
noncomputable def ve_865 : List vm_E := [([.inr (.inl (.ofNat 0, .ofNat 9)), .inr (.inl (.ofNat 0, .ofNat 0)), .inr (.inl (.ofNat 9, .ofNat 9))], va_h0, 0, [0])]
noncomputable def q_865 : vm_Q := (149, [.inr (.inl (.ofNat 0, .ofNat 9)), .inr (.inl (.ofNat 0, .ofNat 0)), .inr (.inl (.ofNat 9, .ofNat 9))], va_h0, vp_865)
noncomputable def vk_865 : List vm_U := []
noncomputable def vf_865 : List ((Nat → am_I) → vm_A) := [fun v => (0, [(0, .inr (.inl (.ofNat 0, .ofNat 9))), (2, .inr (.inl (.ofNat 0, .ofNat 0))), (4, .inr (.inl (.ofNat 9, .ofNat 9)))], [], (80, []))]
noncomputable def vd_865_0_0 : List (List Nat) := [[0]]
noncomputable def vd_865_0 : List (List (List Nat)) := [vd_865_0_0]
noncomputable def vd_865 : List (List (List (List Nat))) := [vd_865_0]
noncomputable def vt_865 : List (List am_I) := []
noncomputable def vc_865 : vm_C := (fun _ => vp_865, fun pc => [], [], 1, vm_inst 8 1 vt_865 vf_865 vd_865)
theorem vx_865_0 : vm_chk bt_149 [] vk_865 13 vc_865 0 1 = true := by decide +kernel
theorem vy_865 : vm_ents 149 13 vc_865 ve_865 = true := by decide +kernel
theorem vw_865 : ∀ q ∈ vk_865, vm_wt 1 q := vm_wts vm_kn (by decide +kernel)
theorem v_865 : vm_at 2 q_865 := vm_ok (inl := []) (es := ve_865) bq_149 (by decide) vw_865 vy_865 (fun i => vm_hc vx_865_0 rfl (fun h => absurd h (Nat.not_lt_zero _))) _ List.mem_cons_self
noncomputable def vp_866 : List vm_R := [(some (.inl (.ofNat 0, .ofNat 0)), va_h0)]
noncomputable def ve_866 : List vm_E := [([.inr (.inl (.ofNat 10, .ofNat 2147483647)), .inr (.inl (.ofNat 0, .ofNat 0)), .inr (.inl (.ofNat 9, .ofNat 9))], va_h0, 0, [0])]
noncomputable def q_866 : vm_Q := (149, [.inr (.inl (.ofNat 10, .ofNat 2147483647)), .inr (.inl (.ofNat 0, .ofNat 0)), .inr (.inl (.ofNat 9, .ofNat 9))], va_h0, vp_866)
noncomputable def vk_866 : List vm_U := []
noncomputable def vf_866 : List ((Nat → am_I) → vm_A) := [fun v => (0, [(0, .inr (.inl (.ofNat 10, .ofNat 2147483647))), (2, .inr (.inl (.ofNat 0, .ofNat 0))), (4, .inr (.inl (.ofNat 9, .ofNat 9)))], [], (80, []))]
noncomputable def vd_866_0_0 : List (List Nat) := [[0]]
noncomputable def vd_866_0 : List (List (List Nat)) := [vd_866_0_0]
noncomputable def vd_866 : List (List (List (List Nat))) := [vd_866_0]
noncomputable def vt_866 : List (List am_I) := []
noncomputable def vc_866 : vm_C := (fun _ => vp_866, fun pc => [], [], 1, vm_inst 8 1 vt_866 vf_866 vd_866)
theorem vx_866_0 : vm_chk bt_149 [] vk_866 12 vc_866 0 1 = true := by decide +kernel
theorem vy_866 : vm_ents 149 12 vc_866 ve_866 = true := by decide +kernel
theorem vw_866 : ∀ q ∈ vk_866, vm_wt 1 q := vm_wts vm_kn (by decide +kernel)
theorem v_866 : vm_at 2 q_866 := vm_ok (inl := []) (es := ve_866) bq_149 (by decide) vw_866 vy_866 (fun i => vm_hc vx_866_0 rfl (fun h => absurd h (Nat.not_lt_zero _))) _ List.mem_cons_self
noncomputable def va_c61 : am_C := .inr (.inr (.inr (7, [.inr (.inr (some 71)), .inr (.inr (some 72)), .inl (.ofNat 2, .ofNat 5), .inl (.ofNat 2, .ofNat 5), .inl (.ofNat 0, .ofNat 5), .inr (.inr (some 73)), .inl (.ofNat 2, .ofNat 5), .inl (.ofNat 2, .ofNat 5), .inl (.ofNat 0, .ofNat 5), .inl am_top, .inl am_top, .inl am_top, .inr (.inr (some 74)), .inl (.ofNat 0, .ofNat 160), .inl (.ofNat 0, .ofNat 160), .inl (.ofNat 0, .ofNat 160), .inl (.ofNat 0, .ofNat 3), .inl (.ofNat 0, .ofNat 9), .inl (.ofNat 0, .ofNat 0), .inl am_top, .inr (.inr (some 75)), .inr (.inr (some 76)), .inr (.inr (some 77)), .inr (.inr (some 78)), .inr (.inr (some 79)), .inr (.inr (some 80)), .inr (.inr (some 81)), .inl (.negSucc 0, .ofNat 6), .inr (.inr (some 82)), .inr (.inr (some 83)), .inr (.inr (some 84)), .inr (.inr (some 85)), .inr (.inr (some 86)), .inl am_top, .inr (.inr (some 87))])))
noncomputable def va_h176 : am_H := (80, [(62, va_c61)])
noncomputable def vp_867 : List vm_R := [(some (.inl (.ofNat 0, .ofNat 0)), va_h174), (some (.inl (.ofNat 0, .ofNat 9)), va_h176)]
noncomputable def ve_867 : List vm_E := [([.inr (.inr (some 70)), .inl (.ofNat 0, .ofNat 0), .inl (.ofNat 9, .ofNat 9)], va_h167, 0, [0, 1, 2])]
noncomputable def q_867 : vm_Q := (161, [.inr (.inr (some 70)), .inl (.ofNat 0, .ofNat 0), .inl (.ofNat 9, .ofNat 9)], va_h167, vp_867)
noncomputable def vk_867 : List vm_U := [(q_865, true, []), (q_866, true, []), (q_864, true, []), (q_830, false, [(7, 62, 17)]), (q_832, false, [(7, 62, 17)]), (q_836, false, [(7, 62, 17)]), (q_838, false, [(7, 62, 17)])]
noncomputable def vf_867 : List ((Nat → am_I) → vm_A) := [fun v => (0, [(0, .inr (.inr (some 70))), (1, .inl (.ofNat 0, .ofNat 0)), (2, .inl (.ofNat 9, .ofNat 9))], [], (80, [(62, .inr (.inr (.inr (7, [.inr (.inr (some 71)), .inr (.inr (some 72)), .inl (.ofNat 2, .ofNat 5), .inl (.ofNat 2, .ofNat 5), .inl (.ofNat 0, .ofNat 5), .inr (.inr (some 73)), .inl (.ofNat 2, .ofNat 5), .inl (.ofNat 2, .ofNat 5), .inl (.ofNat 0, .ofNat 5), .inl am_top, .inl am_top, .inl am_top, .inr (.inr (some 74)), .inl (.ofNat 0, .ofNat 160), .inl (.ofNat 0, .ofNat 160), .inl (.ofNat 0, .ofNat 160), .inl (.ofNat 0, .ofNat 3), .inl (v 0), .inl (.ofNat 0, .ofNat 0), .inl am_top, .inr (.inr (some 75)), .inr (.inr (some 76)), .inr (.inr (some 77)), .inr (.inr (some 78)), .inr (.inr (some 79)), .inr (.inr (some 80)), .inr (.inr (some 81)), .inl (.negSucc 0, .ofNat 6), .inr (.inr (some 82)), .inr (.inr (some 83)), .inr (.inr (some 84)), .inr (.inr (some 85)), .inr (.inr (some 86)), .inl am_top, .inr (.inr (some 87))]))))]))]
noncomputable def vd_867_0_0 : List (List Nat) := [[16777216, 33554432, 50331648]]
noncomputable def vd_867_0 : List (List (List Nat)) := [vd_867_0_0]
noncomputable def vd_867 : List (List (List (List Nat))) := [vd_867_0]
noncomputable def vt_867 : List (List am_I) := [[(.ofNat 10, .ofNat 2147483647), (.ofNat 0, .ofNat 9), (.negSucc 2147483647, .negSucc 0)]]
noncomputable def vc_867 : vm_C := (fun _ => vp_867, fun pc => (match Nat.beq pc 0 with
  | true => [(fun _ _ => some (.inr (62, 17)), fun _ _ => some [.ofNat 0, .ofNat 10])]
  | false => []), [], 3, vm_inst 8 1 vt_867 vf_867 vd_867)
theorem vx_867_0 : vm_chk bt_161 [] vk_867 35 vc_867 0 3 = true := by decide +kernel
theorem vy_867 : vm_ents 161 35 vc_867 ve_867 = true := by decide +kernel
theorem vw_867 : ∀ q ∈ vk_867, vm_wt 2 q := vm_wts (vm_kc (vm_up v_865 rfl) (vm_kc (vm_up v_866 rfl) (vm_kc (vm_up v_864 rfl) (vm_kc (vm_up v_830 rfl) (vm_kc (vm_up v_832 rfl) (vm_kc (vm_up v_836 rfl) (vm_kc (vm_up v_838 rfl) vm_kn))))))) (by decide +kernel)
theorem v_867 : vm_at 3 q_867 := vm_ok (inl := []) (es := ve_867) bq_161 (by decide) vw_867 vy_867 (fun i => vm_hc vx_867_0 rfl (fun h => absurd h (Nat.not_lt_zero _))) _ List.mem_cons_self
noncomputable def vp_868 : List vm_R := [(some (.inl (.ofNat 0, .ofNat 0)), va_h0)]
noncomputable def ve_868 : List vm_E := [([.inr (.inl (.negSucc 2147483647, .negSucc 0)), .inr (.inl (.ofNat 0, .ofNat 0)), .inr (.inl (.ofNat 4, .ofNat 4))], va_h0, 0, [0])]
noncomputable def q_868 : vm_Q := (149, [.inr (.inl (.negSucc 2147483647, .negSucc 0)), .inr (.inl (.ofNat 0, .ofNat 0)), .inr (.inl (.ofNat 4, .ofNat 4))], va_h0, vp_868)
noncomputable def vk_868 : List vm_U := []
noncomputable def vf_868 : List ((Nat → am_I) → vm_A) := [fun v => (0, [(0, .inr (.inl (.negSucc 2147483647, .negSucc 0))), (2, .inr (.inl (.ofNat 0, .ofNat 0))), (4, .inr (.inl (.ofNat 4, .ofNat 4)))], [], (80, []))]
noncomputable def vd_868_0_0 : List (List Nat) := [[0]]
noncomputable def vd_868_0 : List (List (List Nat)) := [vd_868_0_0]
noncomputable def vd_868 : List (List (List (List Nat))) := [vd_868_0]
noncomputable def vt_868 : List (List am_I) := []
noncomputable def vc_868 : vm_C := (fun _ => vp_868, fun pc => [], [], 1, vm_inst 8 1 vt_868 vf_868 vd_868)
theorem vx_868_0 : vm_chk bt_149 [] vk_868 8 vc_868 0 1 = true := by decide +kernel
theorem vy_868 : vm_ents 149 8 vc_868 ve_868 = true := by decide +kernel
theorem vw_868 : ∀ q ∈ vk_868, vm_wt 1 q := vm_wts vm_kn (by decide +kernel)
theorem v_868 : vm_at 2 q_868 := vm_ok (inl := []) (es := ve_868) bq_149 (by decide) vw_868 vy_868 (fun i => vm_hc vx_868_0 rfl (fun h => absurd h (Nat.not_lt_zero _))) _ List.mem_cons_self
noncomputable def vp_869 : List vm_R := [(some (.inl (.ofNat 1, .ofNat 1)), va_h0)]
noncomputable def ve_869 : List vm_E := [([.inr (.inl (.ofNat 0, .ofNat 4)), .inr (.inl (.ofNat 0, .ofNat 0)), .inr (.inl (.ofNat 4, .ofNat 4))], va_h0, 0, [0])]
noncomputable def q_869 : vm_Q := (149, [.inr (.inl (.ofNat 0, .ofNat 4)), .inr (.inl (.ofNat 0, .ofNat 0)), .inr (.inl (.ofNat 4, .ofNat 4))], va_h0, vp_869)
noncomputable def vk_869 : List vm_U := []
noncomputable def vf_869 : List ((Nat → am_I) → vm_A) := [fun v => (0, [(0, .inr (.inl (.ofNat 0, .ofNat 4))), (2, .inr (.inl (.ofNat 0, .ofNat 0))), (4, .inr (.inl (.ofNat 4, .ofNat 4)))], [], (80, []))]
noncomputable def vd_869_0_0 : List (List Nat) := [[0]]
noncomputable def vd_869_0 : List (List (List Nat)) := [vd_869_0_0]
noncomputable def vd_869 : List (List (List (List Nat))) := [vd_869_0]
noncomputable def vt_869 : List (List am_I) := []
noncomputable def vc_869 : vm_C := (fun _ => vp_869, fun pc => [], [], 1, vm_inst 8 1 vt_869 vf_869 vd_869)
theorem vx_869_0 : vm_chk bt_149 [] vk_869 13 vc_869 0 1 = true := by decide +kernel
theorem vy_869 : vm_ents 149 13 vc_869 ve_869 = true := by decide +kernel
theorem vw_869 : ∀ q ∈ vk_869, vm_wt 1 q := vm_wts vm_kn (by decide +kernel)
theorem v_869 : vm_at 2 q_869 := vm_ok (inl := []) (es := ve_869) bq_149 (by decide) vw_869 vy_869 (fun i => vm_hc vx_869_0 rfl (fun h => absurd h (Nat.not_lt_zero _))) _ List.mem_cons_self
noncomputable def vp_870 : List vm_R := [(some (.inl (.ofNat 0, .ofNat 0)), va_h0)]
noncomputable def ve_870 : List vm_E := [([.inr (.inl (.ofNat 5, .ofNat 2147483647)), .inr (.inl (.ofNat 0, .ofNat 0)), .inr (.inl (.ofNat 4, .ofNat 4))], va_h0, 0, [0])]
noncomputable def q_870 : vm_Q := (149, [.inr (.inl (.ofNat 5, .ofNat 2147483647)), .inr (.inl (.ofNat 0, .ofNat 0)), .inr (.inl (.ofNat 4, .ofNat 4))], va_h0, vp_870)
noncomputable def vk_870 : List vm_U := []
noncomputable def vf_870 : List ((Nat → am_I) → vm_A) := [fun v => (0, [(0, .inr (.inl (.ofNat 5, .ofNat 2147483647))), (2, .inr (.inl (.ofNat 0, .ofNat 0))), (4, .inr (.inl (.ofNat 4, .ofNat 4)))], [], (80, []))]
noncomputable def vd_870_0_0 : List (List Nat) := [[0]]
noncomputable def vd_870_0 : List (List (List Nat)) := [vd_870_0_0]
noncomputable def vd_870 : List (List (List (List Nat))) := [vd_870_0]
noncomputable def vt_870 : List (List am_I) := []
noncomputable def vc_870 : vm_C := (fun _ => vp_870, fun pc => [], [], 1, vm_inst 8 1 vt_870 vf_870 vd_870)
theorem vx_870_0 : vm_chk bt_149 [] vk_870 12 vc_870 0 1 = true := by decide +kernel
theorem vy_870 : vm_ents 149 12 vc_870 ve_870 = true := by decide +kernel
theorem vw_870 : ∀ q ∈ vk_870, vm_wt 1 q := vm_wts vm_kn (by decide +kernel)
theorem v_870 : vm_at 2 q_870 := vm_ok (inl := []) (es := ve_870) bq_149 (by decide) vw_870 vy_870 (fun i => vm_hc vx_870_0 rfl (fun h => absurd h (Nat.not_lt_zero _))) _ List.mem_cons_self
noncomputable def va_c62 : am_C := .inr (.inr (.inr (7, [.inr (.inr (some 71)), .inr (.inr (some 72)), .inl (.ofNat 2, .ofNat 5), .inl (.ofNat 2, .ofNat 5), .inl (.ofNat 0, .ofNat 5), .inr (.inr (some 73)), .inl (.ofNat 2, .ofNat 5), .inl (.ofNat 2, .ofNat 5), .inl (.ofNat 0, .ofNat 5), .inl am_top, .inl am_top, .inl am_top, .inr (.inr (some 74)), .inl (.ofNat 0, .ofNat 160), .inl (.ofNat 0, .ofNat 160), .inl (.ofNat 0, .ofNat 160), .inl (.ofNat 0, .ofNat 3), .inl (.ofNat 0, .ofNat 4), .inl (.ofNat 0, .ofNat 0), .inl am_top, .inr (.inr (some 75)), .inr (.inr (some 76)), .inr (.inr (some 77)), .inr (.inr (some 78)), .inr (.inr (some 79)), .inr (.inr (some 80)), .inr (.inr (some 81)), .inl (.negSucc 0, .ofNat 6), .inr (.inr (some 82)), .inr (.inr (some 83)), .inr (.inr (some 84)), .inr (.inr (some 85)), .inr (.inr (some 86)), .inl am_top, .inr (.inr (some 87))])))
noncomputable def va_h177 : am_H := (80, [(62, va_c62)])
noncomputable def vp_871 : List vm_R := [(some (.inl (.ofNat 0, .ofNat 0)), va_h174), (some (.inl (.ofNat 0, .ofNat 4)), va_h177)]
noncomputable def ve_871 : List vm_E := [([.inr (.inr (some 70)), .inl (.ofNat 0, .ofNat 0), .inl (.ofNat 4, .ofNat 4)], va_h167, 0, [0, 1, 2])]
noncomputable def q_871 : vm_Q := (161, [.inr (.inr (some 70)), .inl (.ofNat 0, .ofNat 0), .inl (.ofNat 4, .ofNat 4)], va_h167, vp_871)
noncomputable def vk_871 : List vm_U := [(q_869, true, []), (q_870, true, []), (q_868, true, []), (q_830, false, [(7, 62, 17)]), (q_832, false, [(7, 62, 17)]), (q_836, false, [(7, 62, 17)]), (q_838, false, [(7, 62, 17)])]
noncomputable def vf_871 : List ((Nat → am_I) → vm_A) := [fun v => (0, [(0, .inr (.inr (some 70))), (1, .inl (.ofNat 0, .ofNat 0)), (2, .inl (.ofNat 4, .ofNat 4))], [], (80, [(62, .inr (.inr (.inr (7, [.inr (.inr (some 71)), .inr (.inr (some 72)), .inl (.ofNat 2, .ofNat 5), .inl (.ofNat 2, .ofNat 5), .inl (.ofNat 0, .ofNat 5), .inr (.inr (some 73)), .inl (.ofNat 2, .ofNat 5), .inl (.ofNat 2, .ofNat 5), .inl (.ofNat 0, .ofNat 5), .inl am_top, .inl am_top, .inl am_top, .inr (.inr (some 74)), .inl (.ofNat 0, .ofNat 160), .inl (.ofNat 0, .ofNat 160), .inl (.ofNat 0, .ofNat 160), .inl (.ofNat 0, .ofNat 3), .inl (v 0), .inl (.ofNat 0, .ofNat 0), .inl am_top, .inr (.inr (some 75)), .inr (.inr (some 76)), .inr (.inr (some 77)), .inr (.inr (some 78)), .inr (.inr (some 79)), .inr (.inr (some 80)), .inr (.inr (some 81)), .inl (.negSucc 0, .ofNat 6), .inr (.inr (some 82)), .inr (.inr (some 83)), .inr (.inr (some 84)), .inr (.inr (some 85)), .inr (.inr (some 86)), .inl am_top, .inr (.inr (some 87))]))))]))]
noncomputable def vd_871_0_0 : List (List Nat) := [[16777216, 33554432, 50331648]]
noncomputable def vd_871_0 : List (List (List Nat)) := [vd_871_0_0]
noncomputable def vd_871 : List (List (List (List Nat))) := [vd_871_0]
noncomputable def vt_871 : List (List am_I) := [[(.ofNat 5, .ofNat 2147483647), (.ofNat 0, .ofNat 4), (.negSucc 2147483647, .negSucc 0)]]
noncomputable def vc_871 : vm_C := (fun _ => vp_871, fun pc => (match Nat.beq pc 0 with
  | true => [(fun _ _ => some (.inr (62, 17)), fun _ _ => some [.ofNat 0, .ofNat 5])]
  | false => []), [], 3, vm_inst 8 1 vt_871 vf_871 vd_871)
theorem vx_871_0 : vm_chk bt_161 [] vk_871 35 vc_871 0 3 = true := by decide +kernel
theorem vy_871 : vm_ents 161 35 vc_871 ve_871 = true := by decide +kernel
theorem vw_871 : ∀ q ∈ vk_871, vm_wt 2 q := vm_wts (vm_kc (vm_up v_869 rfl) (vm_kc (vm_up v_870 rfl) (vm_kc (vm_up v_868 rfl) (vm_kc (vm_up v_830 rfl) (vm_kc (vm_up v_832 rfl) (vm_kc (vm_up v_836 rfl) (vm_kc (vm_up v_838 rfl) vm_kn))))))) (by decide +kernel)
theorem v_871 : vm_at 3 q_871 := vm_ok (inl := []) (es := ve_871) bq_161 (by decide) vw_871 vy_871 (fun i => vm_hc vx_871_0 rfl (fun h => absurd h (Nat.not_lt_zero _))) _ List.mem_cons_self
noncomputable def vp_872 : List vm_R := [(some (.inl (.ofNat 0, .ofNat 0)), va_h0)]
noncomputable def ve_872 : List vm_E := [([.inr (.inl (.negSucc 2147483647, .negSucc 0)), .inr (.inl (.ofNat 0, .ofNat 0)), .inr (.inl (.ofNat 24, .ofNat 24))], va_h0, 0, [0])]
noncomputable def q_872 : vm_Q := (149, [.inr (.inl (.negSucc 2147483647, .negSucc 0)), .inr (.inl (.ofNat 0, .ofNat 0)), .inr (.inl (.ofNat 24, .ofNat 24))], va_h0, vp_872)
noncomputable def vk_872 : List vm_U := []
noncomputable def vf_872 : List ((Nat → am_I) → vm_A) := [fun v => (0, [(0, .inr (.inl (.negSucc 2147483647, .negSucc 0))), (2, .inr (.inl (.ofNat 0, .ofNat 0))), (4, .inr (.inl (.ofNat 24, .ofNat 24)))], [], (80, []))]
noncomputable def vd_872_0_0 : List (List Nat) := [[0]]
noncomputable def vd_872_0 : List (List (List Nat)) := [vd_872_0_0]
noncomputable def vd_872 : List (List (List (List Nat))) := [vd_872_0]
noncomputable def vt_872 : List (List am_I) := []
noncomputable def vc_872 : vm_C := (fun _ => vp_872, fun pc => [], [], 1, vm_inst 8 1 vt_872 vf_872 vd_872)
theorem vx_872_0 : vm_chk bt_149 [] vk_872 8 vc_872 0 1 = true := by decide +kernel
theorem vy_872 : vm_ents 149 8 vc_872 ve_872 = true := by decide +kernel
theorem vw_872 : ∀ q ∈ vk_872, vm_wt 1 q := vm_wts vm_kn (by decide +kernel)
theorem v_872 : vm_at 2 q_872 := vm_ok (inl := []) (es := ve_872) bq_149 (by decide) vw_872 vy_872 (fun i => vm_hc vx_872_0 rfl (fun h => absurd h (Nat.not_lt_zero _))) _ List.mem_cons_self
noncomputable def vp_873 : List vm_R := [(some (.inl (.ofNat 1, .ofNat 1)), va_h0)]
noncomputable def ve_873 : List vm_E := [([.inr (.inl (.ofNat 0, .ofNat 24)), .inr (.inl (.ofNat 0, .ofNat 0)), .inr (.inl (.ofNat 24, .ofNat 24))], va_h0, 0, [0])]
noncomputable def q_873 : vm_Q := (149, [.inr (.inl (.ofNat 0, .ofNat 24)), .inr (.inl (.ofNat 0, .ofNat 0)), .inr (.inl (.ofNat 24, .ofNat 24))], va_h0, vp_873)
noncomputable def vk_873 : List vm_U := []
noncomputable def vf_873 : List ((Nat → am_I) → vm_A) := [fun v => (0, [(0, .inr (.inl (.ofNat 0, .ofNat 24))), (2, .inr (.inl (.ofNat 0, .ofNat 0))), (4, .inr (.inl (.ofNat 24, .ofNat 24)))], [], (80, []))]
noncomputable def vd_873_0_0 : List (List Nat) := [[0]]
noncomputable def vd_873_0 : List (List (List Nat)) := [vd_873_0_0]
noncomputable def vd_873 : List (List (List (List Nat))) := [vd_873_0]
noncomputable def vt_873 : List (List am_I) := []
noncomputable def vc_873 : vm_C := (fun _ => vp_873, fun pc => [], [], 1, vm_inst 8 1 vt_873 vf_873 vd_873)
theorem vx_873_0 : vm_chk bt_149 [] vk_873 13 vc_873 0 1 = true := by decide +kernel
theorem vy_873 : vm_ents 149 13 vc_873 ve_873 = true := by decide +kernel
theorem vw_873 : ∀ q ∈ vk_873, vm_wt 1 q := vm_wts vm_kn (by decide +kernel)
theorem v_873 : vm_at 2 q_873 := vm_ok (inl := []) (es := ve_873) bq_149 (by decide) vw_873 vy_873 (fun i => vm_hc vx_873_0 rfl (fun h => absurd h (Nat.not_lt_zero _))) _ List.mem_cons_self
noncomputable def vp_874 : List vm_R := [(some (.inl (.ofNat 0, .ofNat 0)), va_h0)]
noncomputable def ve_874 : List vm_E := [([.inr (.inl (.ofNat 25, .ofNat 2147483647)), .inr (.inl (.ofNat 0, .ofNat 0)), .inr (.inl (.ofNat 24, .ofNat 24))], va_h0, 0, [0])]
noncomputable def q_874 : vm_Q := (149, [.inr (.inl (.ofNat 25, .ofNat 2147483647)), .inr (.inl (.ofNat 0, .ofNat 0)), .inr (.inl (.ofNat 24, .ofNat 24))], va_h0, vp_874)
noncomputable def vk_874 : List vm_U := []
noncomputable def vf_874 : List ((Nat → am_I) → vm_A) := [fun v => (0, [(0, .inr (.inl (.ofNat 25, .ofNat 2147483647))), (2, .inr (.inl (.ofNat 0, .ofNat 0))), (4, .inr (.inl (.ofNat 24, .ofNat 24)))], [], (80, []))]
noncomputable def vd_874_0_0 : List (List Nat) := [[0]]
noncomputable def vd_874_0 : List (List (List Nat)) := [vd_874_0_0]
noncomputable def vd_874 : List (List (List (List Nat))) := [vd_874_0]
noncomputable def vt_874 : List (List am_I) := []
noncomputable def vc_874 : vm_C := (fun _ => vp_874, fun pc => [], [], 1, vm_inst 8 1 vt_874 vf_874 vd_874)
theorem vx_874_0 : vm_chk bt_149 [] vk_874 12 vc_874 0 1 = true := by decide +kernel
theorem vy_874 : vm_ents 149 12 vc_874 ve_874 = true := by decide +kernel
theorem vw_874 : ∀ q ∈ vk_874, vm_wt 1 q := vm_wts vm_kn (by decide +kernel)
theorem v_874 : vm_at 2 q_874 := vm_ok (inl := []) (es := ve_874) bq_149 (by decide) vw_874 vy_874 (fun i => vm_hc vx_874_0 rfl (fun h => absurd h (Nat.not_lt_zero _))) _ List.mem_cons_self
noncomputable def va_c63 : am_C := .inr (.inr (.inr (7, [.inr (.inr (some 71)), .inr (.inr (some 72)), .inl (.ofNat 2, .ofNat 5), .inl (.ofNat 2, .ofNat 5), .inl (.ofNat 0, .ofNat 5), .inr (.inr (some 73)), .inl (.ofNat 2, .ofNat 5), .inl (.ofNat 2, .ofNat 5), .inl (.ofNat 0, .ofNat 5), .inl am_top, .inl am_top, .inl am_top, .inr (.inr (some 74)), .inl (.ofNat 0, .ofNat 160), .inl (.ofNat 0, .ofNat 160), .inl (.ofNat 0, .ofNat 160), .inl (.ofNat 0, .ofNat 3), .inl (.ofNat 0, .ofNat 24), .inl (.ofNat 0, .ofNat 0), .inl am_top, .inr (.inr (some 75)), .inr (.inr (some 76)), .inr (.inr (some 77)), .inr (.inr (some 78)), .inr (.inr (some 79)), .inr (.inr (some 80)), .inr (.inr (some 81)), .inl (.negSucc 0, .ofNat 6), .inr (.inr (some 82)), .inr (.inr (some 83)), .inr (.inr (some 84)), .inr (.inr (some 85)), .inr (.inr (some 86)), .inl am_top, .inr (.inr (some 87))])))
noncomputable def va_h178 : am_H := (80, [(62, va_c63)])
noncomputable def vp_875 : List vm_R := [(some (.inl (.ofNat 0, .ofNat 0)), va_h174), (some (.inl (.ofNat 0, .ofNat 24)), va_h178)]
noncomputable def ve_875 : List vm_E := [([.inr (.inr (some 70)), .inl (.ofNat 0, .ofNat 0), .inl (.ofNat 24, .ofNat 24)], va_h167, 0, [0, 1, 2])]
noncomputable def q_875 : vm_Q := (161, [.inr (.inr (some 70)), .inl (.ofNat 0, .ofNat 0), .inl (.ofNat 24, .ofNat 24)], va_h167, vp_875)
noncomputable def vk_875 : List vm_U := [(q_873, true, []), (q_874, true, []), (q_872, true, []), (q_830, false, [(7, 62, 17)]), (q_832, false, [(7, 62, 17)]), (q_836, false, [(7, 62, 17)]), (q_838, false, [(7, 62, 17)])]
noncomputable def vf_875 : List ((Nat → am_I) → vm_A) := [fun v => (0, [(0, .inr (.inr (some 70))), (1, .inl (.ofNat 0, .ofNat 0)), (2, .inl (.ofNat 24, .ofNat 24))], [], (80, [(62, .inr (.inr (.inr (7, [.inr (.inr (some 71)), .inr (.inr (some 72)), .inl (.ofNat 2, .ofNat 5), .inl (.ofNat 2, .ofNat 5), .inl (.ofNat 0, .ofNat 5), .inr (.inr (some 73)), .inl (.ofNat 2, .ofNat 5), .inl (.ofNat 2, .ofNat 5), .inl (.ofNat 0, .ofNat 5), .inl am_top, .inl am_top, .inl am_top, .inr (.inr (some 74)), .inl (.ofNat 0, .ofNat 160), .inl (.ofNat 0, .ofNat 160), .inl (.ofNat 0, .ofNat 160), .inl (.ofNat 0, .ofNat 3), .inl (v 0), .inl (.ofNat 0, .ofNat 0), .inl am_top, .inr (.inr (some 75)), .inr (.inr (some 76)), .inr (.inr (some 77)), .inr (.inr (some 78)), .inr (.inr (some 79)), .inr (.inr (some 80)), .inr (.inr (some 81)), .inl (.negSucc 0, .ofNat 6), .inr (.inr (some 82)), .inr (.inr (some 83)), .inr (.inr (some 84)), .inr (.inr (some 85)), .inr (.inr (some 86)), .inl am_top, .inr (.inr (some 87))]))))]))]
noncomputable def vd_875_0_0 : List (List Nat) := [[16777216, 33554432, 50331648]]
noncomputable def vd_875_0 : List (List (List Nat)) := [vd_875_0_0]
noncomputable def vd_875 : List (List (List (List Nat))) := [vd_875_0]
noncomputable def vt_875 : List (List am_I) := [[(.ofNat 25, .ofNat 2147483647), (.ofNat 0, .ofNat 24), (.negSucc 2147483647, .negSucc 0)]]
noncomputable def vc_875 : vm_C := (fun _ => vp_875, fun pc => (match Nat.beq pc 0 with
  | true => [(fun _ _ => some (.inr (62, 17)), fun _ _ => some [.ofNat 0, .ofNat 25])]
  | false => []), [], 3, vm_inst 8 1 vt_875 vf_875 vd_875)
theorem vx_875_0 : vm_chk bt_161 [] vk_875 35 vc_875 0 3 = true := by decide +kernel
theorem vy_875 : vm_ents 161 35 vc_875 ve_875 = true := by decide +kernel
theorem vw_875 : ∀ q ∈ vk_875, vm_wt 2 q := vm_wts (vm_kc (vm_up v_873 rfl) (vm_kc (vm_up v_874 rfl) (vm_kc (vm_up v_872 rfl) (vm_kc (vm_up v_830 rfl) (vm_kc (vm_up v_832 rfl) (vm_kc (vm_up v_836 rfl) (vm_kc (vm_up v_838 rfl) vm_kn))))))) (by decide +kernel)
theorem v_875 : vm_at 3 q_875 := vm_ok (inl := []) (es := ve_875) bq_161 (by decide) vw_875 vy_875 (fun i => vm_hc vx_875_0 rfl (fun h => absurd h (Nat.not_lt_zero _))) _ List.mem_cons_self
noncomputable def va_c64 : am_C := .inr (.inr (.inr (7, [.inr (.inr (some 71)), .inr (.inr (some 72)), .inl (.ofNat 2, .ofNat 5), .inl (.ofNat 2, .ofNat 5), .inl (.ofNat 0, .ofNat 5), .inr (.inr (some 73)), .inl (.ofNat 2, .ofNat 5), .inl (.ofNat 2, .ofNat 5), .inl (.ofNat 0, .ofNat 5), .inl am_top, .inl am_top, .inl am_top, .inr (.inr (some 74)), .inl (.ofNat 0, .ofNat 160), .inl (.ofNat 0, .ofNat 160), .inl (.ofNat 0, .ofNat 160), .inl (.ofNat 0, .ofNat 3), .inl (.ofNat 0, .ofNat 3), .inl (.ofNat 0, .ofNat 0), .inl am_top, .inr (.inr (some 75)), .inr (.inr (some 76)), .inr (.inr (some 77)), .inr (.inr (some 78)), .inr (.inr (some 79)), .inr (.inr (some 80)), .inr (.inr (some 81)), .inl (.negSucc 0, .ofNat 6), .inr (.inr (some 82)), .inr (.inr (some 83)), .inr (.inr (some 84)), .inr (.inr (some 85)), .inr (.inr (some 86)), .inl am_top, .inr (.inr (some 87))])))
noncomputable def va_h179 : am_H := (80, [(62, va_c64)])
noncomputable def vp_876 : List vm_R := [(some (.inl (.ofNat 0, .ofNat 0)), va_h174), (some (.inl (.ofNat 0, .ofNat 3)), va_h179)]
noncomputable def ve_876 : List vm_E := [([.inr (.inr (some 70)), .inl (.ofNat 0, .ofNat 0), .inl (.ofNat 3, .ofNat 3)], va_h167, 0, [0, 1, 2])]
noncomputable def q_876 : vm_Q := (161, [.inr (.inr (some 70)), .inl (.ofNat 0, .ofNat 0), .inl (.ofNat 3, .ofNat 3)], va_h167, vp_876)
noncomputable def vk_876 : List vm_U := [(q_807, true, []), (q_576, true, []), (q_571, true, []), (q_830, false, [(7, 62, 17)]), (q_832, false, [(7, 62, 17)]), (q_836, false, [(7, 62, 17)]), (q_838, false, [(7, 62, 17)])]
noncomputable def vf_876 : List ((Nat → am_I) → vm_A) := [fun v => (0, [(0, .inr (.inr (some 70))), (1, .inl (.ofNat 0, .ofNat 0)), (2, .inl (.ofNat 3, .ofNat 3))], [], (80, [(62, .inr (.inr (.inr (7, [.inr (.inr (some 71)), .inr (.inr (some 72)), .inl (.ofNat 2, .ofNat 5), .inl (.ofNat 2, .ofNat 5), .inl (.ofNat 0, .ofNat 5), .inr (.inr (some 73)), .inl (.ofNat 2, .ofNat 5), .inl (.ofNat 2, .ofNat 5), .inl (.ofNat 0, .ofNat 5), .inl am_top, .inl am_top, .inl am_top, .inr (.inr (some 74)), .inl (.ofNat 0, .ofNat 160), .inl (.ofNat 0, .ofNat 160), .inl (.ofNat 0, .ofNat 160), .inl (.ofNat 0, .ofNat 3), .inl (v 0), .inl (.ofNat 0, .ofNat 0), .inl am_top, .inr (.inr (some 75)), .inr (.inr (some 76)), .inr (.inr (some 77)), .inr (.inr (some 78)), .inr (.inr (some 79)), .inr (.inr (some 80)), .inr (.inr (some 81)), .inl (.negSucc 0, .ofNat 6), .inr (.inr (some 82)), .inr (.inr (some 83)), .inr (.inr (some 84)), .inr (.inr (some 85)), .inr (.inr (some 86)), .inl am_top, .inr (.inr (some 87))]))))]))]
noncomputable def vd_876_0_0 : List (List Nat) := [[16777216, 33554432, 50331648]]
noncomputable def vd_876_0 : List (List (List Nat)) := [vd_876_0_0]
noncomputable def vd_876 : List (List (List (List Nat))) := [vd_876_0]
noncomputable def vt_876 : List (List am_I) := [[(.ofNat 4, .ofNat 2147483647), (.ofNat 0, .ofNat 3), (.negSucc 2147483647, .negSucc 0)]]
noncomputable def vc_876 : vm_C := (fun _ => vp_876, fun pc => (match Nat.beq pc 0 with
  | true => [(fun _ _ => some (.inr (62, 17)), fun _ _ => some [.ofNat 0, .ofNat 4])]
  | false => []), [], 3, vm_inst 8 1 vt_876 vf_876 vd_876)
theorem vx_876_0 : vm_chk bt_161 [] vk_876 35 vc_876 0 3 = true := by decide +kernel
theorem vy_876 : vm_ents 161 35 vc_876 ve_876 = true := by decide +kernel
theorem vw_876 : ∀ q ∈ vk_876, vm_wt 2 q := vm_wts (vm_kc (vm_up v_807 rfl) (vm_kc (vm_up v_576 rfl) (vm_kc (vm_up v_571 rfl) (vm_kc (vm_up v_830 rfl) (vm_kc (vm_up v_832 rfl) (vm_kc (vm_up v_836 rfl) (vm_kc (vm_up v_838 rfl) vm_kn))))))) (by decide +kernel)
theorem v_876 : vm_at 3 q_876 := vm_ok (inl := []) (es := ve_876) bq_161 (by decide) vw_876 vy_876 (fun i => vm_hc vx_876_0 rfl (fun h => absurd h (Nat.not_lt_zero _))) _ List.mem_cons_self
noncomputable def vp_877 : List vm_R := [(some (.inl (.ofNat 0, .ofNat 0)), va_h168)]
noncomputable def ve_877 : List vm_E := [([.inr (.inr (some 70)), .inl (.ofNat 2, .ofNat 2), .inl (.ofNat 5, .ofNat 5)], va_h168, 0, [0, 1, 2])]
noncomputable def q_877 : vm_Q := (161, [.inr (.inr (some 70)), .inl (.ofNat 2, .ofNat 2), .inl (.ofNat 5, .ofNat 5)], va_h168, vp_877)
noncomputable def vk_877 : List vm_U := []
noncomputable def vf_877 : List ((Nat → am_I) → vm_A) := [fun v => (0, [(0, .inr (.inr (some 70))), (1, .inl (.ofNat 2, .ofNat 2)), (2, .inl (.ofNat 5, .ofNat 5))], [], (80, [(62, .inr (.inr (.inr (7, [.inr (.inr (some 71)), .inr (.inr (some 72)), .inl (.ofNat 2, .ofNat 5), .inl (.ofNat 2, .ofNat 5), .inl (.ofNat 0, .ofNat 5), .inr (.inr (some 73)), .inl (.ofNat 0, .ofNat 5), .inl (.ofNat 0, .ofNat 5), .inl (.ofNat 0, .ofNat 5), .inl am_top, .inl am_top, .inl am_top, .inr (.inr (some 74)), .inl (.ofNat 0, .ofNat 160), .inl (.ofNat 0, .ofNat 160), .inl (.ofNat 0, .ofNat 160), .inl (.ofNat 0, .ofNat 3), .inl (v 0), .inl (.ofNat 1, .ofNat 6), .inl am_top, .inr (.inr (some 75)), .inr (.inr (some 76)), .inr (.inr (some 77)), .inr (.inr (some 78)), .inr (.inr (some 79)), .inr (.inr (some 80)), .inr (.inr (some 81)), .inl (.negSucc 0, .ofNat 6), .inr (.inr (some 82)), .inr (.inr (some 83)), .inr (.inr (some 84)), .inr (.inr (some 85)), .inr (.inr (some 86)), .inl am_top, .inr (.inr (some 87))]))))]))]
noncomputable def vd_877_0_0 : List (List Nat) := [[16777216, 33554432, 50331648]]
noncomputable def vd_877_0 : List (List (List Nat)) := [vd_877_0_0]
noncomputable def vd_877 : List (List (List (List Nat))) := [vd_877_0]
noncomputable def vt_877 : List (List am_I) := [[(.ofNat 6, .ofNat 2147483647), (.ofNat 2, .ofNat 5), (.negSucc 2147483647, .ofNat 1)]]
noncomputable def vc_877 : vm_C := (fun _ => vp_877, fun pc => (match Nat.beq pc 0 with
  | true => [(fun _ _ => some (.inr (62, 17)), fun _ _ => some [.ofNat 2, .ofNat 6])]
  | false => []), [], 3, vm_inst 8 1 vt_877 vf_877 vd_877)
theorem vx_877_0 : vm_chk bt_161 [] vk_877 13 vc_877 0 3 = true := by decide +kernel
theorem vy_877 : vm_ents 161 13 vc_877 ve_877 = true := by decide +kernel
theorem vw_877 : ∀ q ∈ vk_877, vm_wt 1 q := vm_wts vm_kn (by decide +kernel)
theorem v_877 : vm_at 2 q_877 := vm_ok (inl := []) (es := ve_877) bq_161 (by decide) vw_877 vy_877 (fun i => vm_hc vx_877_0 rfl (fun h => absurd h (Nat.not_lt_zero _))) _ List.mem_cons_self
noncomputable def vp_878 : List vm_R := [(some (.inl (.ofNat 0, .ofNat 0)), va_h168)]
noncomputable def ve_878 : List vm_E := [([.inr (.inr (some 70)), .inl (.ofNat 0, .ofNat 0), .inl (.ofNat 9, .ofNat 9)], va_h168, 0, [0, 1, 2])]
noncomputable def q_878 : vm_Q := (161, [.inr (.inr (some 70)), .inl (.ofNat 0, .ofNat 0), .inl (.ofNat 9, .ofNat 9)], va_h168, vp_878)
noncomputable def vk_878 : List vm_U := []
noncomputable def vf_878 : List ((Nat → am_I) → vm_A) := [fun v => (0, [(0, .inr (.inr (some 70))), (1, .inl (.ofNat 0, .ofNat 0)), (2, .inl (.ofNat 9, .ofNat 9))], [], (80, [(62, .inr (.inr (.inr (7, [.inr (.inr (some 71)), .inr (.inr (some 72)), .inl (.ofNat 2, .ofNat 5), .inl (.ofNat 2, .ofNat 5), .inl (.ofNat 0, .ofNat 5), .inr (.inr (some 73)), .inl (.ofNat 0, .ofNat 5), .inl (.ofNat 0, .ofNat 5), .inl (.ofNat 0, .ofNat 5), .inl am_top, .inl am_top, .inl am_top, .inr (.inr (some 74)), .inl (.ofNat 0, .ofNat 160), .inl (.ofNat 0, .ofNat 160), .inl (.ofNat 0, .ofNat 160), .inl (.ofNat 0, .ofNat 3), .inl (v 0), .inl (.ofNat 1, .ofNat 6), .inl am_top, .inr (.inr (some 75)), .inr (.inr (some 76)), .inr (.inr (some 77)), .inr (.inr (some 78)), .inr (.inr (some 79)), .inr (.inr (some 80)), .inr (.inr (some 81)), .inl (.negSucc 0, .ofNat 6), .inr (.inr (some 82)), .inr (.inr (some 83)), .inr (.inr (some 84)), .inr (.inr (some 85)), .inr (.inr (some 86)), .inl am_top, .inr (.inr (some 87))]))))]))]
noncomputable def vd_878_0_0 : List (List Nat) := [[16777216, 33554432, 50331648]]
noncomputable def vd_878_0 : List (List (List Nat)) := [vd_878_0_0]
noncomputable def vd_878 : List (List (List (List Nat))) := [vd_878_0]
noncomputable def vt_878 : List (List am_I) := [[(.ofNat 10, .ofNat 2147483647), (.ofNat 0, .ofNat 9), (.negSucc 2147483647, .negSucc 0)]]
noncomputable def vc_878 : vm_C := (fun _ => vp_878, fun pc => (match Nat.beq pc 0 with
  | true => [(fun _ _ => some (.inr (62, 17)), fun _ _ => some [.ofNat 0, .ofNat 10])]
  | false => []), [], 3, vm_inst 8 1 vt_878 vf_878 vd_878)
theorem vx_878_0 : vm_chk bt_161 [] vk_878 13 vc_878 0 3 = true := by decide +kernel
theorem vy_878 : vm_ents 161 13 vc_878 ve_878 = true := by decide +kernel
theorem vw_878 : ∀ q ∈ vk_878, vm_wt 1 q := vm_wts vm_kn (by decide +kernel)
theorem v_878 : vm_at 2 q_878 := vm_ok (inl := []) (es := ve_878) bq_161 (by decide) vw_878 vy_878 (fun i => vm_hc vx_878_0 rfl (fun h => absurd h (Nat.not_lt_zero _))) _ List.mem_cons_self
noncomputable def vp_879 : List vm_R := [(some (.inl (.ofNat 0, .ofNat 0)), va_h168)]
noncomputable def ve_879 : List vm_E := [([.inr (.inr (some 70)), .inl (.ofNat 0, .ofNat 0), .inl (.ofNat 4, .ofNat 4)], va_h168, 0, [0, 1, 2])]
noncomputable def q_879 : vm_Q := (161, [.inr (.inr (some 70)), .inl (.ofNat 0, .ofNat 0), .inl (.ofNat 4, .ofNat 4)], va_h168, vp_879)
noncomputable def vk_879 : List vm_U := []
noncomputable def vf_879 : List ((Nat → am_I) → vm_A) := [fun v => (0, [(0, .inr (.inr (some 70))), (1, .inl (.ofNat 0, .ofNat 0)), (2, .inl (.ofNat 4, .ofNat 4))], [], (80, [(62, .inr (.inr (.inr (7, [.inr (.inr (some 71)), .inr (.inr (some 72)), .inl (.ofNat 2, .ofNat 5), .inl (.ofNat 2, .ofNat 5), .inl (.ofNat 0, .ofNat 5), .inr (.inr (some 73)), .inl (.ofNat 0, .ofNat 5), .inl (.ofNat 0, .ofNat 5), .inl (.ofNat 0, .ofNat 5), .inl am_top, .inl am_top, .inl am_top, .inr (.inr (some 74)), .inl (.ofNat 0, .ofNat 160), .inl (.ofNat 0, .ofNat 160), .inl (.ofNat 0, .ofNat 160), .inl (.ofNat 0, .ofNat 3), .inl (v 0), .inl (.ofNat 1, .ofNat 6), .inl am_top, .inr (.inr (some 75)), .inr (.inr (some 76)), .inr (.inr (some 77)), .inr (.inr (some 78)), .inr (.inr (some 79)), .inr (.inr (some 80)), .inr (.inr (some 81)), .inl (.negSucc 0, .ofNat 6), .inr (.inr (some 82)), .inr (.inr (some 83)), .inr (.inr (some 84)), .inr (.inr (some 85)), .inr (.inr (some 86)), .inl am_top, .inr (.inr (some 87))]))))]))]
noncomputable def vd_879_0_0 : List (List Nat) := [[16777216, 33554432, 50331648]]
noncomputable def vd_879_0 : List (List (List Nat)) := [vd_879_0_0]
noncomputable def vd_879 : List (List (List (List Nat))) := [vd_879_0]
noncomputable def vt_879 : List (List am_I) := [[(.ofNat 5, .ofNat 2147483647), (.ofNat 0, .ofNat 4), (.negSucc 2147483647, .negSucc 0)]]
noncomputable def vc_879 : vm_C := (fun _ => vp_879, fun pc => (match Nat.beq pc 0 with
  | true => [(fun _ _ => some (.inr (62, 17)), fun _ _ => some [.ofNat 0, .ofNat 5])]
  | false => []), [], 3, vm_inst 8 1 vt_879 vf_879 vd_879)
theorem vx_879_0 : vm_chk bt_161 [] vk_879 13 vc_879 0 3 = true := by decide +kernel
theorem vy_879 : vm_ents 161 13 vc_879 ve_879 = true := by decide +kernel
theorem vw_879 : ∀ q ∈ vk_879, vm_wt 1 q := vm_wts vm_kn (by decide +kernel)
theorem v_879 : vm_at 2 q_879 := vm_ok (inl := []) (es := ve_879) bq_161 (by decide) vw_879 vy_879 (fun i => vm_hc vx_879_0 rfl (fun h => absurd h (Nat.not_lt_zero _))) _ List.mem_cons_self
noncomputable def vp_880 : List vm_R := [(some (.inl (.ofNat 0, .ofNat 0)), va_h168)]
noncomputable def ve_880 : List vm_E := [([.inr (.inr (some 70)), .inl (.ofNat 0, .ofNat 0), .inl (.ofNat 24, .ofNat 24)], va_h168, 0, [0, 1, 2])]
noncomputable def q_880 : vm_Q := (161, [.inr (.inr (some 70)), .inl (.ofNat 0, .ofNat 0), .inl (.ofNat 24, .ofNat 24)], va_h168, vp_880)
noncomputable def vk_880 : List vm_U := []
noncomputable def vf_880 : List ((Nat → am_I) → vm_A) := [fun v => (0, [(0, .inr (.inr (some 70))), (1, .inl (.ofNat 0, .ofNat 0)), (2, .inl (.ofNat 24, .ofNat 24))], [], (80, [(62, .inr (.inr (.inr (7, [.inr (.inr (some 71)), .inr (.inr (some 72)), .inl (.ofNat 2, .ofNat 5), .inl (.ofNat 2, .ofNat 5), .inl (.ofNat 0, .ofNat 5), .inr (.inr (some 73)), .inl (.ofNat 0, .ofNat 5), .inl (.ofNat 0, .ofNat 5), .inl (.ofNat 0, .ofNat 5), .inl am_top, .inl am_top, .inl am_top, .inr (.inr (some 74)), .inl (.ofNat 0, .ofNat 160), .inl (.ofNat 0, .ofNat 160), .inl (.ofNat 0, .ofNat 160), .inl (.ofNat 0, .ofNat 3), .inl (v 0), .inl (.ofNat 1, .ofNat 6), .inl am_top, .inr (.inr (some 75)), .inr (.inr (some 76)), .inr (.inr (some 77)), .inr (.inr (some 78)), .inr (.inr (some 79)), .inr (.inr (some 80)), .inr (.inr (some 81)), .inl (.negSucc 0, .ofNat 6), .inr (.inr (some 82)), .inr (.inr (some 83)), .inr (.inr (some 84)), .inr (.inr (some 85)), .inr (.inr (some 86)), .inl am_top, .inr (.inr (some 87))]))))]))]
noncomputable def vd_880_0_0 : List (List Nat) := [[16777216, 33554432, 50331648]]
noncomputable def vd_880_0 : List (List (List Nat)) := [vd_880_0_0]
noncomputable def vd_880 : List (List (List (List Nat))) := [vd_880_0]
noncomputable def vt_880 : List (List am_I) := [[(.ofNat 25, .ofNat 2147483647), (.ofNat 0, .ofNat 24), (.negSucc 2147483647, .negSucc 0)]]
noncomputable def vc_880 : vm_C := (fun _ => vp_880, fun pc => (match Nat.beq pc 0 with
  | true => [(fun _ _ => some (.inr (62, 17)), fun _ _ => some [.ofNat 0, .ofNat 25])]
  | false => []), [], 3, vm_inst 8 1 vt_880 vf_880 vd_880)
theorem vx_880_0 : vm_chk bt_161 [] vk_880 13 vc_880 0 3 = true := by decide +kernel
theorem vy_880 : vm_ents 161 13 vc_880 ve_880 = true := by decide +kernel
theorem vw_880 : ∀ q ∈ vk_880, vm_wt 1 q := vm_wts vm_kn (by decide +kernel)
theorem v_880 : vm_at 2 q_880 := vm_ok (inl := []) (es := ve_880) bq_161 (by decide) vw_880 vy_880 (fun i => vm_hc vx_880_0 rfl (fun h => absurd h (Nat.not_lt_zero _))) _ List.mem_cons_self
noncomputable def vp_881 : List vm_R := [(some (.inl (.ofNat 0, .ofNat 0)), va_h168)]
noncomputable def ve_881 : List vm_E := [([.inr (.inr (some 70)), .inl (.ofNat 0, .ofNat 0), .inl (.ofNat 3, .ofNat 3)], va_h168, 0, [0, 1, 2])]
noncomputable def q_881 : vm_Q := (161, [.inr (.inr (some 70)), .inl (.ofNat 0, .ofNat 0), .inl (.ofNat 3, .ofNat 3)], va_h168, vp_881)
noncomputable def vk_881 : List vm_U := []
noncomputable def vf_881 : List ((Nat → am_I) → vm_A) := [fun v => (0, [(0, .inr (.inr (some 70))), (1, .inl (.ofNat 0, .ofNat 0)), (2, .inl (.ofNat 3, .ofNat 3))], [], (80, [(62, .inr (.inr (.inr (7, [.inr (.inr (some 71)), .inr (.inr (some 72)), .inl (.ofNat 2, .ofNat 5), .inl (.ofNat 2, .ofNat 5), .inl (.ofNat 0, .ofNat 5), .inr (.inr (some 73)), .inl (.ofNat 0, .ofNat 5), .inl (.ofNat 0, .ofNat 5), .inl (.ofNat 0, .ofNat 5), .inl am_top, .inl am_top, .inl am_top, .inr (.inr (some 74)), .inl (.ofNat 0, .ofNat 160), .inl (.ofNat 0, .ofNat 160), .inl (.ofNat 0, .ofNat 160), .inl (.ofNat 0, .ofNat 3), .inl (v 0), .inl (.ofNat 1, .ofNat 6), .inl am_top, .inr (.inr (some 75)), .inr (.inr (some 76)), .inr (.inr (some 77)), .inr (.inr (some 78)), .inr (.inr (some 79)), .inr (.inr (some 80)), .inr (.inr (some 81)), .inl (.negSucc 0, .ofNat 6), .inr (.inr (some 82)), .inr (.inr (some 83)), .inr (.inr (some 84)), .inr (.inr (some 85)), .inr (.inr (some 86)), .inl am_top, .inr (.inr (some 87))]))))]))]
noncomputable def vd_881_0_0 : List (List Nat) := [[16777216, 33554432, 50331648]]
noncomputable def vd_881_0 : List (List (List Nat)) := [vd_881_0_0]
noncomputable def vd_881 : List (List (List (List Nat))) := [vd_881_0]
noncomputable def vt_881 : List (List am_I) := [[(.ofNat 4, .ofNat 2147483647), (.ofNat 0, .ofNat 3), (.negSucc 2147483647, .negSucc 0)]]
noncomputable def vc_881 : vm_C := (fun _ => vp_881, fun pc => (match Nat.beq pc 0 with
  | true => [(fun _ _ => some (.inr (62, 17)), fun _ _ => some [.ofNat 0, .ofNat 4])]
  | false => []), [], 3, vm_inst 8 1 vt_881 vf_881 vd_881)
theorem vx_881_0 : vm_chk bt_161 [] vk_881 13 vc_881 0 3 = true := by decide +kernel
theorem vy_881 : vm_ents 161 13 vc_881 ve_881 = true := by decide +kernel
theorem vw_881 : ∀ q ∈ vk_881, vm_wt 1 q := vm_wts vm_kn (by decide +kernel)
theorem v_881 : vm_at 2 q_881 := vm_ok (inl := []) (es := ve_881) bq_161 (by decide) vw_881 vy_881 (fun i => vm_hc vx_881_0 rfl (fun h => absurd h (Nat.not_lt_zero _))) _ List.mem_cons_self
noncomputable def vp_882 : List vm_R := [(some (.inl (.ofNat 0, .ofNat 0)), va_h0)]
noncomputable def ve_882 : List vm_E := [([.inr (.inl (.ofNat 0, .ofNat 31)), .inr (.inl (.ofNat 97, .ofNat 97)), .inr (.inl (.ofNat 122, .ofNat 122))], va_h0, 0, [0])]
noncomputable def q_882 : vm_Q := (149, [.inr (.inl (.ofNat 0, .ofNat 31)), .inr (.inl (.ofNat 97, .ofNat 97)), .inr (.inl (.ofNat 122, .ofNat 122))], va_h0, vp_882)
noncomputable def vk_882 : List vm_U := []
noncomputable def vf_882 : List ((Nat → am_I) → vm_A) := [fun v => (0, [(0, .inr (.inl (.ofNat 0, .ofNat 31))), (2, .inr (.inl (.ofNat 97, .ofNat 97))), (4, .inr (.inl (.ofNat 122, .ofNat 122)))], [], (80, []))]
noncomputable def vd_882_0_0 : List (List Nat) := [[0]]
noncomputable def vd_882_0 : List (List (List Nat)) := [vd_882_0_0]
noncomputable def vd_882 : List (List (List (List Nat))) := [vd_882_0]
noncomputable def vt_882 : List (List am_I) := []
noncomputable def vc_882 : vm_C := (fun _ => vp_882, fun pc => [], [], 1, vm_inst 8 1 vt_882 vf_882 vd_882)
theorem vx_882_0 : vm_chk bt_149 [] vk_882 8 vc_882 0 1 = true := by decide +kernel
theorem vy_882 : vm_ents 149 8 vc_882 ve_882 = true := by decide +kernel
theorem vw_882 : ∀ q ∈ vk_882, vm_wt 1 q := vm_wts vm_kn (by decide +kernel)
theorem v_882 : vm_at 2 q_882 := vm_ok (inl := []) (es := ve_882) bq_149 (by decide) vw_882 vy_882 (fun i => vm_hc vx_882_0 rfl (fun h => absurd h (Nat.not_lt_zero _))) _ List.mem_cons_self
noncomputable def vp_883 : List vm_R := [(some (.inl (.ofNat 0, .ofNat 0)), va_h0)]
noncomputable def ve_883 : List vm_E := [([.inr (.inl (.ofNat 0, .ofNat 31)), .inr (.inl (.ofNat 48, .ofNat 48)), .inr (.inl (.ofNat 57, .ofNat 57))], va_h0, 0, [0])]
noncomputable def q_883 : vm_Q := (149, [.inr (.inl (.ofNat 0, .ofNat 31)), .inr (.inl (.ofNat 48, .ofNat 48)), .inr (.inl (.ofNat 57, .ofNat 57))], va_h0, vp_883)
noncomputable def vk_883 : List vm_U := []
noncomputable def vf_883 : List ((Nat → am_I) → vm_A) := [fun v => (0, [(0, .inr (.inl (.ofNat 0, .ofNat 31))), (2, .inr (.inl (.ofNat 48, .ofNat 48))), (4, .inr (.inl (.ofNat 57, .ofNat 57)))], [], (80, []))]
noncomputable def vd_883_0_0 : List (List Nat) := [[0]]
noncomputable def vd_883_0 : List (List (List Nat)) := [vd_883_0_0]
noncomputable def vd_883 : List (List (List (List Nat))) := [vd_883_0]
noncomputable def vt_883 : List (List am_I) := []
noncomputable def vc_883 : vm_C := (fun _ => vp_883, fun pc => [], [], 1, vm_inst 8 1 vt_883 vf_883 vd_883)
theorem vx_883_0 : vm_chk bt_149 [] vk_883 8 vc_883 0 1 = true := by decide +kernel
theorem vy_883 : vm_ents 149 8 vc_883 ve_883 = true := by decide +kernel
theorem vw_883 : ∀ q ∈ vk_883, vm_wt 1 q := vm_wts vm_kn (by decide +kernel)
theorem v_883 : vm_at 2 q_883 := vm_ok (inl := []) (es := ve_883) bq_149 (by decide) vw_883 vy_883 (fun i => vm_hc vx_883_0 rfl (fun h => absurd h (Nat.not_lt_zero _))) _ List.mem_cons_self
noncomputable def vp_884 : List vm_R := [(some (.inl (.ofNat 0, .ofNat 0)), va_h0)]
noncomputable def ve_884 : List vm_E := [([.inr (.inl (.ofNat 33, .ofNat 47)), .inr (.inl (.ofNat 97, .ofNat 97)), .inr (.inl (.ofNat 122, .ofNat 122))], va_h0, 0, [0])]
noncomputable def q_884 : vm_Q := (149, [.inr (.inl (.ofNat 33, .ofNat 47)), .inr (.inl (.ofNat 97, .ofNat 97)), .inr (.inl (.ofNat 122, .ofNat 122))], va_h0, vp_884)
noncomputable def vk_884 : List vm_U := []
noncomputable def vf_884 : List ((Nat → am_I) → vm_A) := [fun v => (0, [(0, .inr (.inl (.ofNat 33, .ofNat 47))), (2, .inr (.inl (.ofNat 97, .ofNat 97))), (4, .inr (.inl (.ofNat 122, .ofNat 122)))], [], (80, []))]
noncomputable def vd_884_0_0 : List (List Nat) := [[0]]
noncomputable def vd_884_0 : List (List (List Nat)) := [vd_884_0_0]
noncomputable def vd_884 : List (List (List (List Nat))) := [vd_884_0]
noncomputable def vt_884 : List (List am_I) := []
noncomputable def vc_884 : vm_C := (fun _ => vp_884, fun pc => [], [], 1, vm_inst 8 1 vt_884 vf_884 vd_884)
theorem vx_884_0 : vm_chk bt_149 [] vk_884 8 vc_884 0 1 = true := by decide +kernel
theorem vy_884 : vm_ents 149 8 vc_884 ve_884 = true := by decide +kernel
theorem vw_884 : ∀ q ∈ vk_884, vm_wt 1 q := vm_wts vm_kn (by decide +kernel)
theorem v_884 : vm_at 2 q_884 := vm_ok (inl := []) (es := ve_884) bq_149 (by decide) vw_884 vy_884 (fun i => vm_hc vx_884_0 rfl (fun h => absurd h (Nat.not_lt_zero _))) _ List.mem_cons_self
noncomputable def vp_885 : List vm_R := [(some (.inl (.ofNat 0, .ofNat 0)), va_h0)]
noncomputable def ve_885 : List vm_E := [([.inr (.inl (.ofNat 33, .ofNat 47)), .inr (.inl (.ofNat 48, .ofNat 48)), .inr (.inl (.ofNat 57, .ofNat 57))], va_h0, 0, [0])]
noncomputable def q_885 : vm_Q := (149, [.inr (.inl (.ofNat 33, .ofNat 47)), .inr (.inl (.ofNat 48, .ofNat 48)), .inr (.inl (.ofNat 57, .ofNat 57))], va_h0, vp_885)
noncomputable def vk_885 : List vm_U := []
noncomputable def vf_885 : List ((Nat → am_I) → vm_A) := [fun v => (0, [(0, .inr (.inl (.ofNat 33, .ofNat 47))), (2, .inr (.inl (.ofNat 48, .ofNat 48))), (4, .inr (.inl (.ofNat 57, .ofNat 57)))], [], (80, []))]
noncomputable def vd_885_0_0 : List (List Nat) := [[0]]
noncomputable def vd_885_0 : List (List (List Nat)) := [vd_885_0_0]
noncomputable def vd_885 : List (List (List (List Nat))) := [vd_885_0]
noncomputable def vt_885 : List (List am_I) := []
noncomputable def vc_885 : vm_C := (fun _ => vp_885, fun pc => [], [], 1, vm_inst 8 1 vt_885 vf_885 vd_885)
theorem vx_885_0 : vm_chk bt_149 [] vk_885 8 vc_885 0 1 = true := by decide +kernel
theorem vy_885 : vm_ents 149 8 vc_885 ve_885 = true := by decide +kernel
theorem vw_885 : ∀ q ∈ vk_885, vm_wt 1 q := vm_wts vm_kn (by decide +kernel)
theorem v_885 : vm_at 2 q_885 := vm_ok (inl := []) (es := ve_885) bq_149 (by decide) vw_885 vy_885 (fun i => vm_hc vx_885_0 rfl (fun h => absurd h (Nat.not_lt_zero _))) _ List.mem_cons_self
noncomputable def vp_886 : List vm_R := [(some (.inl (.ofNat 0, .ofNat 0)), va_h0)]
noncomputable def ve_886 : List vm_E := [([.inr (.inl (.ofNat 48, .ofNat 57)), .inr (.inl (.ofNat 97, .ofNat 97)), .inr (.inl (.ofNat 122, .ofNat 122))], va_h0, 0, [0])]
noncomputable def q_886 : vm_Q := (149, [.inr (.inl (.ofNat 48, .ofNat 57)), .inr (.inl (.ofNat 97, .ofNat 97)), .inr (.inl (.ofNat 122, .ofNat 122))], va_h0, vp_886)
noncomputable def vk_886 : List vm_U := []
noncomputable def vf_886 : List ((Nat → am_I) → vm_A) := [fun v => (0, [(0, .inr (.inl (.ofNat 48, .ofNat 57))), (2, .inr (.inl (.ofNat 97, .ofNat 97))), (4, .inr (.inl (.ofNat 122, .ofNat 122)))], [], (80, []))]
noncomputable def vd_886_0_0 : List (List Nat) := [[0]]
noncomputable def vd_886_0 : List (List (List Nat)) := [vd_886_0_0]
noncomputable def vd_886 : List (List (List (List Nat))) := [vd_886_0]
noncomputable def vt_886 : List (List am_I) := []
noncomputable def vc_886 : vm_C := (fun _ => vp_886, fun pc => [], [], 1, vm_inst 8 1 vt_886 vf_886 vd_886)
theorem vx_886_0 : vm_chk bt_149 [] vk_886 8 vc_886 0 1 = true := by decide +kernel
theorem vy_886 : vm_ents 149 8 vc_886 ve_886 = true := by decide +kernel
theorem vw_886 : ∀ q ∈ vk_886, vm_wt 1 q := vm_wts vm_kn (by decide +kernel)
theorem v_886 : vm_at 2 q_886 := vm_ok (inl := []) (es := ve_886) bq_149 (by decide) vw_886 vy_886 (fun i => vm_hc vx_886_0 rfl (fun h => absurd h (Nat.not_lt_zero _))) _ List.mem_cons_self
noncomputable def vp_887 : List vm_R := [(some (.inl (.ofNat 1, .ofNat 1)), va_h0)]
noncomputable def ve_887 : List vm_E := [([.inr (.inl (.ofNat 48, .ofNat 57)), .inr (.inl (.ofNat 48, .ofNat 48)), .inr (.inl (.ofNat 57, .ofNat 57))], va_h0, 0, [0])]
noncomputable def q_887 : vm_Q := (149, [.inr (.inl (.ofNat 48, .ofNat 57)), .inr (.inl (.ofNat 48, .ofNat 48)), .inr (.inl (.ofNat 57, .ofNat 57))], va_h0, vp_887)
noncomputable def vk_887 : List vm_U := []
noncomputable def vf_887 : List ((Nat → am_I) → vm_A) := [fun v => (0, [(0, .inr (.inl (.ofNat 48, .ofNat 57))), (2, .inr (.inl (.ofNat 48, .ofNat 48))), (4, .inr (.inl (.ofNat 57, .ofNat 57)))], [], (80, []))]
noncomputable def vd_887_0_0 : List (List Nat) := [[0]]
noncomputable def vd_887_0 : List (List (List Nat)) := [vd_887_0_0]
noncomputable def vd_887 : List (List (List (List Nat))) := [vd_887_0]
noncomputable def vt_887 : List (List am_I) := []
noncomputable def vc_887 : vm_C := (fun _ => vp_887, fun pc => [], [], 1, vm_inst 8 1 vt_887 vf_887 vd_887)
theorem vx_887_0 : vm_chk bt_149 [] vk_887 13 vc_887 0 1 = true := by decide +kernel
theorem vy_887 : vm_ents 149 13 vc_887 ve_887 = true := by decide +kernel
theorem vw_887 : ∀ q ∈ vk_887, vm_wt 1 q := vm_wts vm_kn (by decide +kernel)
theorem v_887 : vm_at 2 q_887 := vm_ok (inl := []) (es := ve_887) bq_149 (by decide) vw_887 vy_887 (fun i => vm_hc vx_887_0 rfl (fun h => absurd h (Nat.not_lt_zero _))) _ List.mem_cons_self
noncomputable def vp_888 : List vm_R := [(some (.inl (.ofNat 0, .ofNat 0)), va_h0)]
noncomputable def ve_888 : List vm_E := [([.inr (.inl (.ofNat 58, .ofNat 96)), .inr (.inl (.ofNat 97, .ofNat 97)), .inr (.inl (.ofNat 122, .ofNat 122))], va_h0, 0, [0])]
noncomputable def q_888 : vm_Q := (149, [.inr (.inl (.ofNat 58, .ofNat 96)), .inr (.inl (.ofNat 97, .ofNat 97)), .inr (.inl (.ofNat 122, .ofNat 122))], va_h0, vp_888)
noncomputable def vk_888 : List vm_U := []
noncomputable def vf_888 : List ((Nat → am_I) → vm_A) := [fun v => (0, [(0, .inr (.inl (.ofNat 58, .ofNat 96))), (2, .inr (.inl (.ofNat 97, .ofNat 97))), (4, .inr (.inl (.ofNat 122, .ofNat 122)))], [], (80, []))]
noncomputable def vd_888_0_0 : List (List Nat) := [[0]]
noncomputable def vd_888_0 : List (List (List Nat)) := [vd_888_0_0]
noncomputable def vd_888 : List (List (List (List Nat))) := [vd_888_0]
noncomputable def vt_888 : List (List am_I) := []
noncomputable def vc_888 : vm_C := (fun _ => vp_888, fun pc => [], [], 1, vm_inst 8 1 vt_888 vf_888 vd_888)
theorem vx_888_0 : vm_chk bt_149 [] vk_888 8 vc_888 0 1 = true := by decide +kernel
theorem vy_888 : vm_ents 149 8 vc_888 ve_888 = true := by decide +kernel
theorem vw_888 : ∀ q ∈ vk_888, vm_wt 1 q := vm_wts vm_kn (by decide +kernel)
theorem v_888 : vm_at 2 q_888 := vm_ok (inl := []) (es := ve_888) bq_149 (by decide) vw_888 vy_888 (fun i => vm_hc vx_888_0 rfl (fun h => absurd h (Nat.not_lt_zero _))) _ List.mem_cons_self
noncomputable def vp_889 : List vm_R := [(some (.inl (.ofNat 0, .ofNat 0)), va_h0)]
noncomputable def ve_889 : List vm_E := [([.inr (.inl (.ofNat 58, .ofNat 96)), .inr (.inl (.ofNat 48, .ofNat 48)), .inr (.inl (.ofNat 57, .ofNat 57))], va_h0, 0, [0])]
noncomputable def q_889 : vm_Q := (149, [.inr (.inl (.ofNat 58, .ofNat 96)), .inr (.inl (.ofNat 48, .ofNat 48)), .inr (.inl (.ofNat 57, .ofNat 57))], va_h0, vp_889)
noncomputable def vk_889 : List vm_U := []
noncomputable def vf_889 : List ((Nat → am_I) → vm_A) := [fun v => (0, [(0, .inr (.inl (.ofNat 58, .ofNat 96))), (2, .inr (.inl (.ofNat 48, .ofNat 48))), (4, .inr (.inl (.ofNat 57, .ofNat 57)))], [], (80, []))]
noncomputable def vd_889_0_0 : List (List Nat) := [[0]]
noncomputable def vd_889_0 : List (List (List Nat)) := [vd_889_0_0]
noncomputable def vd_889 : List (List (List (List Nat))) := [vd_889_0]
noncomputable def vt_889 : List (List am_I) := []
noncomputable def vc_889 : vm_C := (fun _ => vp_889, fun pc => [], [], 1, vm_inst 8 1 vt_889 vf_889 vd_889)
theorem vx_889_0 : vm_chk bt_149 [] vk_889 12 vc_889 0 1 = true := by decide +kernel
theorem vy_889 : vm_ents 149 12 vc_889 ve_889 = true := by decide +kernel
theorem vw_889 : ∀ q ∈ vk_889, vm_wt 1 q := vm_wts vm_kn (by decide +kernel)
theorem v_889 : vm_at 2 q_889 := vm_ok (inl := []) (es := ve_889) bq_149 (by decide) vw_889 vy_889 (fun i => vm_hc vx_889_0 rfl (fun h => absurd h (Nat.not_lt_zero _))) _ List.mem_cons_self
noncomputable def vp_890 : List vm_R := [(some (.inl (.ofNat 1, .ofNat 1)), va_h0)]
noncomputable def ve_890 : List vm_E := [([.inr (.inl (.ofNat 97, .ofNat 122)), .inr (.inl (.ofNat 97, .ofNat 97)), .inr (.inl (.ofNat 122, .ofNat 122))], va_h0, 0, [0])]
noncomputable def q_890 : vm_Q := (149, [.inr (.inl (.ofNat 97, .ofNat 122)), .inr (.inl (.ofNat 97, .ofNat 97)), .inr (.inl (.ofNat 122, .ofNat 122))], va_h0, vp_890)
noncomputable def vk_890 : List vm_U := []
noncomputable def vf_890 : List ((Nat → am_I) → vm_A) := [fun v => (0, [(0, .inr (.inl (.ofNat 97, .ofNat 122))), (2, .inr (.inl (.ofNat 97, .ofNat 97))), (4, .inr (.inl (.ofNat 122, .ofNat 122)))], [], (80, []))]
noncomputable def vd_890_0_0 : List (List Nat) := [[0]]
noncomputable def vd_890_0 : List (List (List Nat)) := [vd_890_0_0]
noncomputable def vd_890 : List (List (List (List Nat))) := [vd_890_0]
noncomputable def vt_890 : List (List am_I) := []
noncomputable def vc_890 : vm_C := (fun _ => vp_890, fun pc => [], [], 1, vm_inst 8 1 vt_890 vf_890 vd_890)
theorem vx_890_0 : vm_chk bt_149 [] vk_890 13 vc_890 0 1 = true := by decide +kernel
theorem vy_890 : vm_ents 149 13 vc_890 ve_890 = true := by decide +kernel
theorem vw_890 : ∀ q ∈ vk_890, vm_wt 1 q := vm_wts vm_kn (by decide +kernel)
theorem v_890 : vm_at 2 q_890 := vm_ok (inl := []) (es := ve_890) bq_149 (by decide) vw_890 vy_890 (fun i => vm_hc vx_890_0 rfl (fun h => absurd h (Nat.not_lt_zero _))) _ List.mem_cons_self
noncomputable def vp_891 : List vm_R := [(some (.inl (.ofNat 0, .ofNat 0)), va_h0)]
noncomputable def ve_891 : List vm_E := [([.inr (.inl (.ofNat 123, .ofNat 127)), .inr (.inl (.ofNat 97, .ofNat 97)), .inr (.inl (.ofNat 122, .ofNat 122))], va_h0, 0, [0])]
noncomputable def q_891 : vm_Q := (149, [.inr (.inl (.ofNat 123, .ofNat 127)), .inr (.inl (.ofNat 97, .ofNat 97)), .inr (.inl (.ofNat 122, .ofNat 122))], va_h0, vp_891)
noncomputable def vk_891 : List vm_U := []
noncomputable def vf_891 : List ((Nat → am_I) → vm_A) := [fun v => (0, [(0, .inr (.inl (.ofNat 123, .ofNat 127))), (2, .inr (.inl (.ofNat 97, .ofNat 97))), (4, .inr (.inl (.ofNat 122, .ofNat 122)))], [], (80, []))]
noncomputable def vd_891_0_0 : List (List Nat) := [[0]]
noncomputable def vd_891_0 : List (List (List Nat)) := [vd_891_0_0]
noncomputable def vd_891 : List (List (List (List Nat))) := [vd_891_0]
noncomputable def vt_891 : List (List am_I) := []
noncomputable def vc_891 : vm_C := (fun _ => vp_891, fun pc => [], [], 1, vm_inst 8 1 vt_891 vf_891 vd_891)
theorem vx_891_0 : vm_chk bt_149 [] vk_891 12 vc_891 0 1 = true := by decide +kernel
theorem vy_891 : vm_ents 149 12 vc_891 ve_891 = true := by decide +kernel
theorem vw_891 : ∀ q ∈ vk_891, vm_wt 1 q := vm_wts vm_kn (by decide +kernel)
theorem v_891 : vm_at 2 q_891 := vm_ok (inl := []) (es := ve_891) bq_149 (by decide) vw_891 vy_891 (fun i => vm_hc vx_891_0 rfl (fun h => absurd h (Nat.not_lt_zero _))) _ List.mem_cons_self
noncomputable def vp_892 : List vm_R := [(some (.inl (.ofNat 0, .ofNat 0)), va_h0)]
noncomputable def ve_892 : List vm_E := [([.inr (.inl (.ofNat 123, .ofNat 127)), .inr (.inl (.ofNat 48, .ofNat 48)), .inr (.inl (.ofNat 57, .ofNat 57))], va_h0, 0, [0])]
noncomputable def q_892 : vm_Q := (149, [.inr (.inl (.ofNat 123, .ofNat 127)), .inr (.inl (.ofNat 48, .ofNat 48)), .inr (.inl (.ofNat 57, .ofNat 57))], va_h0, vp_892)
noncomputable def vk_892 : List vm_U := []
noncomputable def vf_892 : List ((Nat → am_I) → vm_A) := [fun v => (0, [(0, .inr (.inl (.ofNat 123, .ofNat 127))), (2, .inr (.inl (.ofNat 48, .ofNat 48))), (4, .inr (.inl (.ofNat 57, .ofNat 57)))], [], (80, []))]
noncomputable def vd_892_0_0 : List (List Nat) := [[0]]
noncomputable def vd_892_0 : List (List (List Nat)) := [vd_892_0_0]
noncomputable def vd_892 : List (List (List (List Nat))) := [vd_892_0]
noncomputable def vt_892 : List (List am_I) := []
noncomputable def vc_892 : vm_C := (fun _ => vp_892, fun pc => [], [], 1, vm_inst 8 1 vt_892 vf_892 vd_892)
theorem vx_892_0 : vm_chk bt_149 [] vk_892 12 vc_892 0 1 = true := by decide +kernel
theorem vy_892 : vm_ents 149 12 vc_892 ve_892 = true := by decide +kernel
theorem vw_892 : ∀ q ∈ vk_892, vm_wt 1 q := vm_wts vm_kn (by decide +kernel)
theorem v_892 : vm_at 2 q_892 := vm_ok (inl := []) (es := ve_892) bq_149 (by decide) vw_892 vy_892 (fun i => vm_hc vx_892_0 rfl (fun h => absurd h (Nat.not_lt_zero _))) _ List.mem_cons_self
noncomputable def vp_893 : List vm_R := [(some (.inl (.ofNat 0, .ofNat 0)), va_h0)]
noncomputable def ve_893 : List vm_E := [([.inr (.inl (.negSucc 0, .negSucc 0)), .inr (.inl (.ofNat 48, .ofNat 48)), .inr (.inl (.ofNat 57, .ofNat 57))], va_h0, 0, [0])]
noncomputable def q_893 : vm_Q := (149, [.inr (.inl (.negSucc 0, .negSucc 0)), .inr (.inl (.ofNat 48, .ofNat 48)), .inr (.inl (.ofNat 57, .ofNat 57))], va_h0, vp_893)
noncomputable def vk_893 : List vm_U := []
noncomputable def vf_893 : List ((Nat → am_I) → vm_A) := [fun v => (0, [(0, .inr (.inl (.negSucc 0, .negSucc 0))), (2, .inr (.inl (.ofNat 48, .ofNat 48))), (4, .inr (.inl (.ofNat 57, .ofNat 57)))], [], (80, []))]
noncomputable def vd_893_0_0 : List (List Nat) := [[0]]
noncomputable def vd_893_0 : List (List (List Nat)) := [vd_893_0_0]
noncomputable def vd_893 : List (List (List (List Nat))) := [vd_893_0]
noncomputable def vt_893 : List (List am_I) := []
noncomputable def vc_893 : vm_C := (fun _ => vp_893, fun pc => [], [], 1, vm_inst 8 1 vt_893 vf_893 vd_893)
theorem vx_893_0 : vm_chk bt_149 [] vk_893 8 vc_893 0 1 = true := by decide +kernel
theorem vy_893 : vm_ents 149 8 vc_893 ve_893 = true := by decide +kernel
theorem vw_893 : ∀ q ∈ vk_893, vm_wt 1 q := vm_wts vm_kn (by decide +kernel)
theorem v_893 : vm_at 2 q_893 := vm_ok (inl := []) (es := ve_893) bq_149 (by decide) vw_893 vy_893 (fun i => vm_hc vx_893_0 rfl (fun h => absurd h (Nat.not_lt_zero _))) _ List.mem_cons_self
noncomputable def vp_894 : List vm_R := [(some (.inl (.ofNat 0, .ofNat 0)), va_h0)]
noncomputable def ve_894 : List vm_E := [([.inr (.inl (.ofNat 0, .ofNat 47)), .inr (.inl (.ofNat 48, .ofNat 48)), .inr (.inl (.ofNat 57, .ofNat 57))], va_h0, 0, [0])]
noncomputable def q_894 : vm_Q := (149, [.inr (.inl (.ofNat 0, .ofNat 47)), .inr (.inl (.ofNat 48, .ofNat 48)), .inr (.inl (.ofNat 57, .ofNat 57))], va_h0, vp_894)
noncomputable def vk_894 : List vm_U := []
noncomputable def vf_894 : List ((Nat → am_I) → vm_A) := [fun v => (0, [(0, .inr (.inl (.ofNat 0, .ofNat 47))), (2, .inr (.inl (.ofNat 48, .ofNat 48))), (4, .inr (.inl (.ofNat 57, .ofNat 57)))], [], (80, []))]
noncomputable def vd_894_0_0 : List (List Nat) := [[0]]
noncomputable def vd_894_0 : List (List (List Nat)) := [vd_894_0_0]
noncomputable def vd_894 : List (List (List (List Nat))) := [vd_894_0]
noncomputable def vt_894 : List (List am_I) := []
noncomputable def vc_894 : vm_C := (fun _ => vp_894, fun pc => [], [], 1, vm_inst 8 1 vt_894 vf_894 vd_894)
theorem vx_894_0 : vm_chk bt_149 [] vk_894 8 vc_894 0 1 = true := by decide +kernel
theorem vy_894 : vm_ents 149 8 vc_894 ve_894 = true := by decide +kernel
theorem vw_894 : ∀ q ∈ vk_894, vm_wt 1 q := vm_wts vm_kn (by decide +kernel)
theorem v_894 : vm_at 2 q_894 := vm_ok (inl := []) (es := ve_894) bq_149 (by decide) vw_894 vy_894 (fun i => vm_hc vx_894_0 rfl (fun h => absurd h (Nat.not_lt_zero _))) _ List.mem_cons_self
noncomputable def vp_895 : List vm_R := [(some (.inl (.ofNat 0, .ofNat 0)), va_h0)]
noncomputable def ve_895 : List vm_E := [([.inr (.inl (.ofNat 58, .ofNat 127)), .inr (.inl (.ofNat 48, .ofNat 48)), .inr (.inl (.ofNat 57, .ofNat 57))], va_h0, 0, [0])]
noncomputable def q_895 : vm_Q := (149, [.inr (.inl (.ofNat 58, .ofNat 127)), .inr (.inl (.ofNat 48, .ofNat 48)), .inr (.inl (.ofNat 57, .ofNat 57))], va_h0, vp_895)
noncomputable def vk_895 : List vm_U := []
noncomputable def vf_895 : List ((Nat → am_I) → vm_A) := [fun v => (0, [(0, .inr (.inl (.ofNat 58, .ofNat 127))), (2, .inr (.inl (.ofNat 48, .ofNat 48))), (4, .inr (.inl (.ofNat 57, .ofNat 57)))], [], (80, []))]
noncomputable def vd_895_0_0 : List (List Nat) := [[0]]
noncomputable def vd_895_0 : List (List (List Nat)) := [vd_895_0_0]
noncomputable def vd_895 : List (List (List (List Nat))) := [vd_895_0]
noncomputable def vt_895 : List (List am_I) := []
noncomputable def vc_895 : vm_C := (fun _ => vp_895, fun pc => [], [], 1, vm_inst 8 1 vt_895 vf_895 vd_895)
theorem vx_895_0 : vm_chk bt_149 [] vk_895 12 vc_895 0 1 = true := by decide +kernel
theorem vy_895 : vm_ents 149 12 vc_895 ve_895 = true := by decide +kernel
theorem vw_895 : ∀ q ∈ vk_895, vm_wt 1 q := vm_wts vm_kn (by decide +kernel)
theorem v_895 : vm_at 2 q_895 := vm_ok (inl := []) (es := ve_895) bq_149 (by decide) vw_895 vy_895 (fun i => vm_hc vx_895_0 rfl (fun h => absurd h (Nat.not_lt_zero _))) _ List.mem_cons_self
noncomputable def vp_896 : List vm_R := [(some (.inl (.ofNat 0, .ofNat 0)), va_h0)]
noncomputable def ve_896 : List vm_E := [([.inr (.inl (.negSucc 0, .negSucc 0)), .inr (.inl (.ofNat 97, .ofNat 97)), .inr (.inl (.ofNat 122, .ofNat 122))], va_h0, 0, [0])]
noncomputable def q_896 : vm_Q := (149, [.inr (.inl (.negSucc 0, .negSucc 0)), .inr (.inl (.ofNat 97, .ofNat 97)), .inr (.inl (.ofNat 122, .ofNat 122))], va_h0, vp_896)
noncomputable def vk_896 : List vm_U := []
noncomputable def vf_896 : List ((Nat → am_I) → vm_A) := [fun v => (0, [(0, .inr (.inl (.negSucc 0, .negSucc 0))), (2, .inr (.inl (.ofNat 97, .ofNat 97))), (4, .inr (.inl (.ofNat 122, .ofNat 122)))], [], (80, []))]
noncomputable def vd_896_0_0 : List (List Nat) := [[0]]
noncomputable def vd_896_0 : List (List (List Nat)) := [vd_896_0_0]
noncomputable def vd_896 : List (List (List (List Nat))) := [vd_896_0]
noncomputable def vt_896 : List (List am_I) := []
noncomputable def vc_896 : vm_C := (fun _ => vp_896, fun pc => [], [], 1, vm_inst 8 1 vt_896 vf_896 vd_896)
theorem vx_896_0 : vm_chk bt_149 [] vk_896 8 vc_896 0 1 = true := by decide +kernel
theorem vy_896 : vm_ents 149 8 vc_896 ve_896 = true := by decide +kernel
theorem vw_896 : ∀ q ∈ vk_896, vm_wt 1 q := vm_wts vm_kn (by decide +kernel)
theorem v_896 : vm_at 2 q_896 := vm_ok (inl := []) (es := ve_896) bq_149 (by decide) vw_896 vy_896 (fun i => vm_hc vx_896_0 rfl (fun h => absurd h (Nat.not_lt_zero _))) _ List.mem_cons_self
noncomputable def vp_897 : List vm_R := [(some (.inl (.ofNat 0, .ofNat 0)), va_h0)]
noncomputable def ve_897 : List vm_E := [([.inr (.inl (.ofNat 0, .ofNat 96)), .inr (.inl (.ofNat 97, .ofNat 97)), .inr (.inl (.ofNat 122, .ofNat 122))], va_h0, 0, [0])]
noncomputable def q_897 : vm_Q := (149, [.inr (.inl (.ofNat 0, .ofNat 96)), .inr (.inl (.ofNat 97, .ofNat 97)), .inr (.inl (.ofNat 122, .ofNat 122))], va_h0, vp_897)
noncomputable def vk_897 : List vm_U := []
noncomputable def vf_897 : List ((Nat → am_I) → vm_A) := [fun v => (0, [(0, .inr (.inl (.ofNat 0, .ofNat 96))), (2, .inr (.inl (.ofNat 97, .ofNat 97))), (4, .inr (.inl (.ofNat 122, .ofNat 122)))], [], (80, []))]
noncomputable def vd_897_0_0 : List (List Nat) := [[0]]
noncomputable def vd_897_0 : List (List (List Nat)) := [vd_897_0_0]
noncomputable def vd_897 : List (List (List (List Nat))) := [vd_897_0]
noncomputable def vt_897 : List (List am_I) := []
noncomputable def vc_897 : vm_C := (fun _ => vp_897, fun pc => [], [], 1, vm_inst 8 1 vt_897 vf_897 vd_897)
theorem vx_897_0 : vm_chk bt_149 [] vk_897 8 vc_897 0 1 = true := by decide +kernel
theorem vy_897 : vm_ents 149 8 vc_897 ve_897 = true := by decide +kernel
theorem vw_897 : ∀ q ∈ vk_897, vm_wt 1 q := vm_wts vm_kn (by decide +kernel)
theorem v_897 : vm_at 2 q_897 := vm_ok (inl := []) (es := ve_897) bq_149 (by decide) vw_897 vy_897 (fun i => vm_hc vx_897_0 rfl (fun h => absurd h (Nat.not_lt_zero _))) _ List.mem_cons_self
noncomputable def va_c65 : am_C := .inr (.inr (.inr (7, [.inr (.inr (some 71)), .inr (.inr (some 72)), .inl (.ofNat 2, .ofNat 5), .inl (.ofNat 2, .ofNat 5), .inl (.ofNat 0, .ofNat 5), .inr (.inr (some 73)), .inl (.ofNat 2, .ofNat 5), .inl (.ofNat 2, .ofNat 5), .inl (.ofNat 0, .ofNat 5), .inl am_top, .inl am_top, .inl am_top, .inr (.inr (some 74)), .inl (.ofNat 0, .ofNat 160), .inl (.ofNat 0, .ofNat 0), .inl (.ofNat 0, .ofNat 160), .inl (.ofNat 0, .ofNat 3), .inl am_top, .inl (.ofNat 0, .ofNat 0), .inl am_top, .inr (.inr (some 75)), .inr (.inr (some 76)), .inr (.inr (some 77)), .inr (.inr (some 78)), .inr (.inr (some 79)), .inr (.inr (some 80)), .inr (.inr (some 81)), .inl (.negSucc 0, .ofNat 6), .inr (.inr (some 82)), .inr (.inr (some 83)), .inr (.inr (some 84)), .inr (.inr (some 85)), .inr (.inr (some 86)), .inl am_top, .inr (.inr (some 87))])))
noncomputable def va_h180 : am_H := (80, [(62, va_c65)])
noncomputable def va_c66 : am_C := .inr (.inr (.inr (7, [.inr (.inr (some 71)), .inr (.inr (some 72)), .inl (.ofNat 2, .ofNat 5), .inl (.ofNat 2, .ofNat 5), .inl (.ofNat 0, .ofNat 5), .inr (.inr (some 73)), .inl (.ofNat 2, .ofNat 5), .inl (.ofNat 2, .ofNat 5), .inl (.ofNat 0, .ofNat 5), .inl am_top, .inl am_top, .inl am_top, .inr (.inr (some 74)), .inl (.ofNat 0, .ofNat 160), .inl (.ofNat 1, .ofNat 1), .inl (.ofNat 0, .ofNat 160), .inl (.ofNat 0, .ofNat 3), .inl am_top, .inl (.ofNat 0, .ofNat 0), .inl am_top, .inr (.inr (some 75)), .inr (.inr (some 76)), .inr (.inr (some 77)), .inr (.inr (some 78)), .inr (.inr (some 79)), .inr (.inr (some 80)), .inr (.inr (some 81)), .inl (.negSucc 0, .ofNat 6), .inr (.inr (some 82)), .inr (.inr (some 83)), .inr (.inr (some 84)), .inr (.inr (some 85)), .inr (.inr (some 86)), .inl am_top, .inr (.inr (some 87))])))
noncomputable def va_h181 : am_H := (80, [(62, va_c66)])
noncomputable def va_c67 : am_C := .inr (.inr (.inr (7, [.inr (.inr (some 71)), .inr (.inr (some 72)), .inl (.ofNat 2, .ofNat 5), .inl (.ofNat 2, .ofNat 5), .inl (.ofNat 0, .ofNat 5), .inr (.inr (some 73)), .inl (.ofNat 2, .ofNat 5), .inl (.ofNat 2, .ofNat 5), .inl (.ofNat 0, .ofNat 5), .inl am_top, .inl am_top, .inl am_top, .inr (.inr (some 74)), .inl (.ofNat 0, .ofNat 160), .inl (.ofNat 2, .ofNat 2), .inl (.ofNat 0, .ofNat 160), .inl (.ofNat 0, .ofNat 3), .inl am_top, .inl (.ofNat 0, .ofNat 0), .inl am_top, .inr (.inr (some 75)), .inr (.inr (some 76)), .inr (.inr (some 77)), .inr (.inr (some 78)), .inr (.inr (some 79)), .inr (.inr (some 80)), .inr (.inr (some 81)), .inl (.negSucc 0, .ofNat 6), .inr (.inr (some 82)), .inr (.inr (some 83)), .inr (.inr (some 84)), .inr (.inr (some 85)), .inr (.inr (some 86)), .inl am_top, .inr (.inr (some 87))])))
noncomputable def va_h182 : am_H := (80, [(62, va_c67)])
noncomputable def va_c68 : am_C := .inr (.inr (.inr (7, [.inr (.inr (some 71)), .inr (.inr (some 72)), .inl (.ofNat 2, .ofNat 5), .inl (.ofNat 2, .ofNat 5), .inl (.ofNat 0, .ofNat 5), .inr (.inr (some 73)), .inl (.ofNat 2, .ofNat 5), .inl (.ofNat 2, .ofNat 5), .inl (.ofNat 0, .ofNat 5), .inl am_top, .inl am_top, .inl am_top, .inr (.inr (some 74)), .inl (.ofNat 0, .ofNat 160), .inl (.ofNat 3, .ofNat 3), .inl (.ofNat 0, .ofNat 160), .inl (.ofNat 0, .ofNat 3), .inl am_top, .inl (.ofNat 0, .ofNat 0), .inl am_top, .inr (.inr (some 75)), .inr (.inr (some 76)), .inr (.inr (some 77)), .inr (.inr (some 78)), .inr (.inr (some 79)), .inr (.inr (some 80)), .inr (.inr (some 81)), .inl (.negSucc 0, .ofNat 6), .inr (.inr (some 82)), .inr (.inr (some 83)), .inr (.inr (some 84)), .inr (.inr (some 85)), .inr (.inr (some 86)), .inl am_top, .inr (.inr (some 87))])))
noncomputable def va_h183 : am_H := (80, [(62, va_c68)])
noncomputable def va_c69 : am_C := .inr (.inr (.inr (7, [.inr (.inr (some 71)), .inr (.inr (some 72)), .inl (.ofNat 2, .ofNat 5), .inl (.ofNat 2, .ofNat 5), .inl (.ofNat 0, .ofNat 5), .inr (.inr (some 73)), .inl (.ofNat 2, .ofNat 5), .inl (.ofNat 2, .ofNat 5), .inl (.ofNat 0, .ofNat 5), .inl am_top, .inl am_top, .inl am_top, .inr (.inr (some 74)), .inl (.ofNat 0, .ofNat 160), .inl (.ofNat 4, .ofNat 4), .inl (.ofNat 0, .ofNat 160), .inl (.ofNat 0, .ofNat 3), .inl am_top, .inl (.ofNat 0, .ofNat 0), .inl am_top, .inr (.inr (some 75)), .inr (.inr (some 76)), .inr (.inr (some 77)), .inr (.inr (some 78)), .inr (.inr (some 79)), .inr (.inr (some 80)), .inr (.inr (some 81)), .inl (.negSucc 0, .ofNat 6), .inr (.inr (some 82)), .inr (.inr (some 83)), .inr (.inr (some 84)), .inr (.inr (some 85)), .inr (.inr (some 86)), .inl am_top, .inr (.inr (some 87))])))
noncomputable def va_h184 : am_H := (80, [(62, va_c69)])
noncomputable def va_c70 : am_C := .inr (.inr (.inr (7, [.inr (.inr (some 71)), .inr (.inr (some 72)), .inl (.ofNat 2, .ofNat 5), .inl (.ofNat 2, .ofNat 5), .inl (.ofNat 0, .ofNat 5), .inr (.inr (some 73)), .inl (.ofNat 2, .ofNat 5), .inl (.ofNat 2, .ofNat 5), .inl (.ofNat 0, .ofNat 5), .inl am_top, .inl am_top, .inl am_top, .inr (.inr (some 74)), .inl (.ofNat 0, .ofNat 160), .inl (.ofNat 5, .ofNat 5), .inl (.ofNat 0, .ofNat 160), .inl (.ofNat 0, .ofNat 3), .inl am_top, .inl (.ofNat 0, .ofNat 0), .inl am_top, .inr (.inr (some 75)), .inr (.inr (some 76)), .inr (.inr (some 77)), .inr (.inr (some 78)), .inr (.inr (some 79)), .inr (.inr (some 80)), .inr (.inr (some 81)), .inl (.negSucc 0, .ofNat 6), .inr (.inr (some 82)), .inr (.inr (some 83)), .inr (.inr (some 84)), .inr (.inr (some 85)), .inr (.inr (some 86)), .inl am_top, .inr (.inr (some 87))])))
noncomputable def va_h185 : am_H := (80, [(62, va_c70)])
noncomputable def va_c71 : am_C := .inr (.inr (.inr (7, [.inr (.inr (some 71)), .inr (.inr (some 72)), .inl (.ofNat 2, .ofNat 5), .inl (.ofNat 2, .ofNat 5), .inl (.ofNat 0, .ofNat 5), .inr (.inr (some 73)), .inl (.ofNat 2, .ofNat 5), .inl (.ofNat 2, .ofNat 5), .inl (.ofNat 0, .ofNat 5), .inl am_top, .inl am_top, .inl am_top, .inr (.inr (some 74)), .inl (.ofNat 0, .ofNat 160), .inl (.ofNat 6, .ofNat 6), .inl (.ofNat 0, .ofNat 160), .inl (.ofNat 0, .ofNat 3), .inl am_top, .inl (.ofNat 0, .ofNat 0), .inl am_top, .inr (.inr (some 75)), .inr (.inr (some 76)), .inr (.inr (some 77)), .inr (.inr (some 78)), .inr (.inr (some 79)), .inr (.inr (some 80)), .inr (.inr (some 81)), .inl (.negSucc 0, .ofNat 6), .inr (.inr (some 82)), .inr (.inr (some 83)), .inr (.inr (some 84)), .inr (.inr (some 85)), .inr (.inr (some 86)), .inl am_top, .inr (.inr (some 87))])))
noncomputable def va_h186 : am_H := (80, [(62, va_c71)])
noncomputable def va_c72 : am_C := .inr (.inr (.inr (7, [.inr (.inr (some 71)), .inr (.inr (some 72)), .inl (.ofNat 2, .ofNat 5), .inl (.ofNat 2, .ofNat 5), .inl (.ofNat 0, .ofNat 5), .inr (.inr (some 73)), .inl (.ofNat 2, .ofNat 5), .inl (.ofNat 2, .ofNat 5), .inl (.ofNat 0, .ofNat 5), .inl am_top, .inl am_top, .inl am_top, .inr (.inr (some 74)), .inl (.ofNat 0, .ofNat 160), .inl (.ofNat 7, .ofNat 7), .inl (.ofNat 0, .ofNat 160), .inl (.ofNat 0, .ofNat 3), .inl am_top, .inl (.ofNat 0, .ofNat 0), .inl am_top, .inr (.inr (some 75)), .inr (.inr (some 76)), .inr (.inr (some 77)), .inr (.inr (some 78)), .inr (.inr (some 79)), .inr (.inr (some 80)), .inr (.inr (some 81)), .inl (.negSucc 0, .ofNat 6), .inr (.inr (some 82)), .inr (.inr (some 83)), .inr (.inr (some 84)), .inr (.inr (some 85)), .inr (.inr (some 86)), .inl am_top, .inr (.inr (some 87))])))
noncomputable def va_h187 : am_H := (80, [(62, va_c72)])
noncomputable def va_c73 : am_C := .inr (.inr (.inr (7, [.inr (.inr (some 71)), .inr (.inr (some 72)), .inl (.ofNat 2, .ofNat 5), .inl (.ofNat 2, .ofNat 5), .inl (.ofNat 0, .ofNat 5), .inr (.inr (some 73)), .inl (.ofNat 2, .ofNat 5), .inl (.ofNat 2, .ofNat 5), .inl (.ofNat 0, .ofNat 5), .inl am_top, .inl am_top, .inl am_top, .inr (.inr (some 74)), .inl (.ofNat 0, .ofNat 160), .inl (.ofNat 8, .ofNat 8), .inl (.ofNat 0, .ofNat 160), .inl (.ofNat 0, .ofNat 3), .inl am_top, .inl (.ofNat 0, .ofNat 0), .inl am_top, .inr (.inr (some 75)), .inr (.inr (some 76)), .inr (.inr (some 77)), .inr (.inr (some 78)), .inr (.inr (some 79)), .inr (.inr (some 80)), .inr (.inr (some 81)), .inl (.negSucc 0, .ofNat 6), .inr (.inr (some 82)), .inr (.inr (some 83)), .inr (.inr (some 84)), .inr (.inr (some 85)), .inr (.inr (some 86)), .inl am_top, .inr (.inr (some 87))])))
noncomputable def va_h188 : am_H := (80, [(62, va_c73)])
noncomputable def va_c74 : am_C := .inr (.inr (.inr (7, [.inr (.inr (some 71)), .inr (.inr (some 72)), .inl (.ofNat 2, .ofNat 5), .inl (.ofNat 2, .ofNat 5), .inl (.ofNat 0, .ofNat 5), .inr (.inr (some 73)), .inl (.ofNat 2, .ofNat 5), .inl (.ofNat 2, .ofNat 5), .inl (.ofNat 0, .ofNat 5), .inl am_top, .inl am_top, .inl am_top, .inr (.inr (some 74)), .inl (.ofNat 0, .ofNat 160), .inl (.ofNat 9, .ofNat 9), .inl (.ofNat 0, .ofNat 160), .inl (.ofNat 0, .ofNat 3), .inl am_top, .inl (.ofNat 0, .ofNat 0), .inl am_top, .inr (.inr (some 75)), .inr (.inr (some 76)), .inr (.inr (some 77)), .inr (.inr (some 78)), .inr (.inr (some 79)), .inr (.inr (some 80)), .inr (.inr (some 81)), .inl (.negSucc 0, .ofNat 6), .inr (.inr (some 82)), .inr (.inr (some 83)), .inr (.inr (some 84)), .inr (.inr (some 85)), .inr (.inr (some 86)), .inl am_top, .inr (.inr (some 87))])))
noncomputable def va_h189 : am_H := (80, [(62, va_c74)])
noncomputable def va_c75 : am_C := .inr (.inr (.inr (7, [.inr (.inr (some 71)), .inr (.inr (some 72)), .inl (.ofNat 2, .ofNat 5), .inl (.ofNat 2, .ofNat 5), .inl (.ofNat 0, .ofNat 5), .inr (.inr (some 73)), .inl (.ofNat 2, .ofNat 5), .inl (.ofNat 2, .ofNat 5), .inl (.ofNat 0, .ofNat 5), .inl am_top, .inl am_top, .inl am_top, .inr (.inr (some 74)), .inl (.ofNat 0, .ofNat 160), .inl (.ofNat 10, .ofNat 10), .inl (.ofNat 0, .ofNat 160), .inl (.ofNat 0, .ofNat 3), .inl am_top, .inl (.ofNat 0, .ofNat 0), .inl am_top, .inr (.inr (some 75)), .inr (.inr (some 76)), .inr (.inr (some 77)), .inr (.inr (some 78)), .inr (.inr (some 79)), .inr (.inr (some 80)), .inr (.inr (some 81)), .inl (.negSucc 0, .ofNat 6), .inr (.inr (some 82)), .inr (.inr (some 83)), .inr (.inr (some 84)), .inr (.inr (some 85)), .inr (.inr (some 86)), .inl am_top, .inr (.inr (some 87))])))
noncomputable def va_h190 : am_H := (80, [(62, va_c75)])
noncomputable def va_c76 : am_C := .inr (.inr (.inr (7, [.inr (.inr (some 71)), .inr (.inr (some 72)), .inl (.ofNat 2, .ofNat 5), .inl (.ofNat 2, .ofNat 5), .inl (.ofNat 0, .ofNat 5), .inr (.inr (some 73)), .inl (.ofNat 2, .ofNat 5), .inl (.ofNat 2, .ofNat 5), .inl (.ofNat 0, .ofNat 5), .inl am_top, .inl am_top, .inl am_top, .inr (.inr (some 74)), .inl (.ofNat 0, .ofNat 160), .inl (.ofNat 11, .ofNat 11), .inl (.ofNat 0, .ofNat 160), .inl (.ofNat 0, .ofNat 3), .inl am_top, .inl (.ofNat 0, .ofNat 0), .inl am_top, .inr (.inr (some 75)), .inr (.inr (some 76)), .inr (.inr (some 77)), .inr (.inr (some 78)), .inr (.inr (some 79)), .inr (.inr (some 80)), .inr (.inr (some 81)), .inl (.negSucc 0, .ofNat 6), .inr (.inr (some 82)), .inr (.inr (some 83)), .inr (.inr (some 84)), .inr (.inr (some 85)), .inr (.inr (some 86)), .inl am_top, .inr (.inr (some 87))])))
noncomputable def va_h191 : am_H := (80, [(62, va_c76)])
noncomputable def va_c77 : am_C := .inr (.inr (.inr (7, [.inr (.inr (some 71)), .inr (.inr (some 72)), .inl (.ofNat 2, .ofNat 5), .inl (.ofNat 2, .ofNat 5), .inl (.ofNat 0, .ofNat 5), .inr (.inr (some 73)), .inl (.ofNat 2, .ofNat 5), .inl (.ofNat 2, .ofNat 5), .inl (.ofNat 0, .ofNat 5), .inl am_top, .inl am_top, .inl am_top, .inr (.inr (some 74)), .inl (.ofNat 0, .ofNat 160), .inl (.ofNat 12, .ofNat 12), .inl (.ofNat 0, .ofNat 160), .inl (.ofNat 0, .ofNat 3), .inl am_top, .inl (.ofNat 0, .ofNat 0), .inl am_top, .inr (.inr (some 75)), .inr (.inr (some 76)), .inr (.inr (some 77)), .inr (.inr (some 78)), .inr (.inr (some 79)), .inr (.inr (some 80)), .inr (.inr (some 81)), .inl (.negSucc 0, .ofNat 6), .inr (.inr (some 82)), .inr (.inr (some 83)), .inr (.inr (some 84)), .inr (.inr (some 85)), .inr (.inr (some 86)), .inl am_top, .inr (.inr (some 87))])))
noncomputable def va_h192 : am_H := (80, [(62, va_c77)])
noncomputable def va_c78 : am_C := .inr (.inr (.inr (7, [.inr (.inr (some 71)), .inr (.inr (some 72)), .inl (.ofNat 2, .ofNat 5), .inl (.ofNat 2, .ofNat 5), .inl (.ofNat 0, .ofNat 5), .inr (.inr (some 73)), .inl (.ofNat 2, .ofNat 5), .inl (.ofNat 2, .ofNat 5), .inl (.ofNat 0, .ofNat 5), .inl am_top, .inl am_top, .inl am_top, .inr (.inr (some 74)), .inl (.ofNat 0, .ofNat 160), .inl (.ofNat 13, .ofNat 13), .inl (.ofNat 0, .ofNat 160), .inl (.ofNat 0, .ofNat 3), .inl am_top, .inl (.ofNat 0, .ofNat 0), .inl am_top, .inr (.inr (some 75)), .inr (.inr (some 76)), .inr (.inr (some 77)), .inr (.inr (some 78)), .inr (.inr (some 79)), .inr (.inr (some 80)), .inr (.inr (some 81)), .inl (.negSucc 0, .ofNat 6), .inr (.inr (some 82)), .inr (.inr (some 83)), .inr (.inr (some 84)), .inr (.inr (some 85)), .inr (.inr (some 86)), .inl am_top, .inr (.inr (some 87))])))
noncomputable def va_h193 : am_H := (80, [(62, va_c78)])
noncomputable def va_c79 : am_C := .inr (.inr (.inr (7, [.inr (.inr (some 71)), .inr (.inr (some 72)), .inl (.ofNat 2, .ofNat 5), .inl (.ofNat 2, .ofNat 5), .inl (.ofNat 0, .ofNat 5), .inr (.inr (some 73)), .inl (.ofNat 2, .ofNat 5), .inl (.ofNat 2, .ofNat 5), .inl (.ofNat 0, .ofNat 5), .inl am_top, .inl am_top, .inl am_top, .inr (.inr (some 74)), .inl (.ofNat 0, .ofNat 160), .inl (.ofNat 14, .ofNat 14), .inl (.ofNat 0, .ofNat 160), .inl (.ofNat 0, .ofNat 3), .inl am_top, .inl (.ofNat 0, .ofNat 0), .inl am_top, .inr (.inr (some 75)), .inr (.inr (some 76)), .inr (.inr (some 77)), .inr (.inr (some 78)), .inr (.inr (some 79)), .inr (.inr (some 80)), .inr (.inr (some 81)), .inl (.negSucc 0, .ofNat 6), .inr (.inr (some 82)), .inr (.inr (some 83)), .inr (.inr (some 84)), .inr (.inr (some 85)), .inr (.inr (some 86)), .inl am_top, .inr (.inr (some 87))])))
noncomputable def va_h194 : am_H := (80, [(62, va_c79)])
noncomputable def va_c80 : am_C := .inr (.inr (.inr (7, [.inr (.inr (some 71)), .inr (.inr (some 72)), .inl (.ofNat 2, .ofNat 5), .inl (.ofNat 2, .ofNat 5), .inl (.ofNat 0, .ofNat 5), .inr (.inr (some 73)), .inl (.ofNat 2, .ofNat 5), .inl (.ofNat 2, .ofNat 5), .inl (.ofNat 0, .ofNat 5), .inl am_top, .inl am_top, .inl am_top, .inr (.inr (some 74)), .inl (.ofNat 0, .ofNat 160), .inl (.ofNat 15, .ofNat 15), .inl (.ofNat 0, .ofNat 160), .inl (.ofNat 0, .ofNat 3), .inl am_top, .inl (.ofNat 0, .ofNat 0), .inl am_top, .inr (.inr (some 75)), .inr (.inr (some 76)), .inr (.inr (some 77)), .inr (.inr (some 78)), .inr (.inr (some 79)), .inr (.inr (some 80)), .inr (.inr (some 81)), .inl (.negSucc 0, .ofNat 6), .inr (.inr (some 82)), .inr (.inr (some 83)), .inr (.inr (some 84)), .inr (.inr (some 85)), .inr (.inr (some 86)), .inl am_top, .inr (.inr (some 87))])))
noncomputable def va_h195 : am_H := (80, [(62, va_c80)])
noncomputable def va_c81 : am_C := .inr (.inr (.inr (7, [.inr (.inr (some 71)), .inr (.inr (some 72)), .inl (.ofNat 2, .ofNat 5), .inl (.ofNat 2, .ofNat 5), .inl (.ofNat 0, .ofNat 5), .inr (.inr (some 73)), .inl (.ofNat 2, .ofNat 5), .inl (.ofNat 2, .ofNat 5), .inl (.ofNat 0, .ofNat 5), .inl am_top, .inl am_top, .inl am_top, .inr (.inr (some 74)), .inl (.ofNat 0, .ofNat 160), .inl (.ofNat 16, .ofNat 16), .inl (.ofNat 0, .ofNat 160), .inl (.ofNat 0, .ofNat 3), .inl am_top, .inl (.ofNat 0, .ofNat 0), .inl am_top, .inr (.inr (some 75)), .inr (.inr (some 76)), .inr (.inr (some 77)), .inr (.inr (some 78)), .inr (.inr (some 79)), .inr (.inr (some 80)), .inr (.inr (some 81)), .inl (.negSucc 0, .ofNat 6), .inr (.inr (some 82)), .inr (.inr (some 83)), .inr (.inr (some 84)), .inr (.inr (some 85)), .inr (.inr (some 86)), .inl am_top, .inr (.inr (some 87))])))
noncomputable def va_h196 : am_H := (80, [(62, va_c81)])
noncomputable def va_c82 : am_C := .inr (.inr (.inr (7, [.inr (.inr (some 71)), .inr (.inr (some 72)), .inl (.ofNat 2, .ofNat 5), .inl (.ofNat 2, .ofNat 5), .inl (.ofNat 0, .ofNat 5), .inr (.inr (some 73)), .inl (.ofNat 2, .ofNat 5), .inl (.ofNat 2, .ofNat 5), .inl (.ofNat 0, .ofNat 5), .inl am_top, .inl am_top, .inl am_top, .inr (.inr (some 74)), .inl (.ofNat 0, .ofNat 160), .inl (.ofNat 17, .ofNat 17), .inl (.ofNat 0, .ofNat 160), .inl (.ofNat 0, .ofNat 3), .inl am_top, .inl (.ofNat 0, .ofNat 0), .inl am_top, .inr (.inr (some 75)), .inr (.inr (some 76)), .inr (.inr (some 77)), .inr (.inr (some 78)), .inr (.inr (some 79)), .inr (.inr (some 80)), .inr (.inr (some 81)), .inl (.negSucc 0, .ofNat 6), .inr (.inr (some 82)), .inr (.inr (some 83)), .inr (.inr (some 84)), .inr (.inr (some 85)), .inr (.inr (some 86)), .inl am_top, .inr (.inr (some 87))])))
noncomputable def va_h197 : am_H := (80, [(62, va_c82)])
noncomputable def va_c83 : am_C := .inr (.inr (.inr (7, [.inr (.inr (some 71)), .inr (.inr (some 72)), .inl (.ofNat 2, .ofNat 5), .inl (.ofNat 2, .ofNat 5), .inl (.ofNat 0, .ofNat 5), .inr (.inr (some 73)), .inl (.ofNat 2, .ofNat 5), .inl (.ofNat 2, .ofNat 5), .inl (.ofNat 0, .ofNat 5), .inl am_top, .inl am_top, .inl am_top, .inr (.inr (some 74)), .inl (.ofNat 0, .ofNat 160), .inl (.ofNat 18, .ofNat 18), .inl (.ofNat 0, .ofNat 160), .inl (.ofNat 0, .ofNat 3), .inl am_top, .inl (.ofNat 0, .ofNat 0), .inl am_top, .inr (.inr (some 75)), .inr (.inr (some 76)), .inr (.inr (some 77)), .inr (.inr (some 78)), .inr (.inr (some 79)), .inr (.inr (some 80)), .inr (.inr (some 81)), .inl (.negSucc 0, .ofNat 6), .inr (.inr (some 82)), .inr (.inr (some 83)), .inr (.inr (some 84)), .inr (.inr (some 85)), .inr (.inr (some 86)), .inl am_top, .inr (.inr (some 87))])))
noncomputable def va_h198 : am_H := (80, [(62, va_c83)])
noncomputable def va_c84 : am_C := .inr (.inr (.inr (7, [.inr (.inr (some 71)), .inr (.inr (some 72)), .inl (.ofNat 2, .ofNat 5), .inl (.ofNat 2, .ofNat 5), .inl (.ofNat 0, .ofNat 5), .inr (.inr (some 73)), .inl (.ofNat 2, .ofNat 5), .inl (.ofNat 2, .ofNat 5), .inl (.ofNat 0, .ofNat 5), .inl am_top, .inl am_top, .inl am_top, .inr (.inr (some 74)), .inl (.ofNat 0, .ofNat 160), .inl (.ofNat 19, .ofNat 19), .inl (.ofNat 0, .ofNat 160), .inl (.ofNat 0, .ofNat 3), .inl am_top, .inl (.ofNat 0, .ofNat 0), .inl am_top, .inr (.inr (some 75)), .inr (.inr (some 76)), .inr (.inr (some 77)), .inr (.inr (some 78)), .inr (.inr (some 79)), .inr (.inr (some 80)), .inr (.inr (some 81)), .inl (.negSucc 0, .ofNat 6), .inr (.inr (some 82)), .inr (.inr (some 83)), .inr (.inr (some 84)), .inr (.inr (some 85)), .inr (.inr (some 86)), .inl am_top, .inr (.inr (some 87))])))
noncomputable def va_h199 : am_H := (80, [(62, va_c84)])
noncomputable def va_c85 : am_C := .inr (.inr (.inr (7, [.inr (.inr (some 71)), .inr (.inr (some 72)), .inl (.ofNat 2, .ofNat 5), .inl (.ofNat 2, .ofNat 5), .inl (.ofNat 0, .ofNat 5), .inr (.inr (some 73)), .inl (.ofNat 2, .ofNat 5), .inl (.ofNat 2, .ofNat 5), .inl (.ofNat 0, .ofNat 5), .inl am_top, .inl am_top, .inl am_top, .inr (.inr (some 74)), .inl (.ofNat 0, .ofNat 160), .inl (.ofNat 20, .ofNat 20), .inl (.ofNat 0, .ofNat 160), .inl (.ofNat 0, .ofNat 3), .inl am_top, .inl (.ofNat 0, .ofNat 0), .inl am_top, .inr (.inr (some 75)), .inr (.inr (some 76)), .inr (.inr (some 77)), .inr (.inr (some 78)), .inr (.inr (some 79)), .inr (.inr (some 80)), .inr (.inr (some 81)), .inl (.negSucc 0, .ofNat 6), .inr (.inr (some 82)), .inr (.inr (some 83)), .inr (.inr (some 84)), .inr (.inr (some 85)), .inr (.inr (some 86)), .inl am_top, .inr (.inr (some 87))])))
noncomputable def va_h200 : am_H := (80, [(62, va_c85)])
noncomputable def va_c86 : am_C := .inr (.inr (.inr (7, [.inr (.inr (some 71)), .inr (.inr (some 72)), .inl (.ofNat 2, .ofNat 5), .inl (.ofNat 2, .ofNat 5), .inl (.ofNat 0, .ofNat 5), .inr (.inr (some 73)), .inl (.ofNat 2, .ofNat 5), .inl (.ofNat 2, .ofNat 5), .inl (.ofNat 0, .ofNat 5), .inl am_top, .inl am_top, .inl am_top, .inr (.inr (some 74)), .inl (.ofNat 0, .ofNat 160), .inl (.ofNat 21, .ofNat 21), .inl (.ofNat 0, .ofNat 160), .inl (.ofNat 0, .ofNat 3), .inl am_top, .inl (.ofNat 0, .ofNat 0), .inl am_top, .inr (.inr (some 75)), .inr (.inr (some 76)), .inr (.inr (some 77)), .inr (.inr (some 78)), .inr (.inr (some 79)), .inr (.inr (some 80)), .inr (.inr (some 81)), .inl (.negSucc 0, .ofNat 6), .inr (.inr (some 82)), .inr (.inr (some 83)), .inr (.inr (some 84)), .inr (.inr (some 85)), .inr (.inr (some 86)), .inl am_top, .inr (.inr (some 87))])))
noncomputable def va_h201 : am_H := (80, [(62, va_c86)])
noncomputable def va_c87 : am_C := .inr (.inr (.inr (7, [.inr (.inr (some 71)), .inr (.inr (some 72)), .inl (.ofNat 2, .ofNat 5), .inl (.ofNat 2, .ofNat 5), .inl (.ofNat 0, .ofNat 5), .inr (.inr (some 73)), .inl (.ofNat 2, .ofNat 5), .inl (.ofNat 2, .ofNat 5), .inl (.ofNat 0, .ofNat 5), .inl am_top, .inl am_top, .inl am_top, .inr (.inr (some 74)), .inl (.ofNat 0, .ofNat 160), .inl (.ofNat 22, .ofNat 22), .inl (.ofNat 0, .ofNat 160), .inl (.ofNat 0, .ofNat 3), .inl am_top, .inl (.ofNat 0, .ofNat 0), .inl am_top, .inr (.inr (some 75)), .inr (.inr (some 76)), .inr (.inr (some 77)), .inr (.inr (some 78)), .inr (.inr (some 79)), .inr (.inr (some 80)), .inr (.inr (some 81)), .inl (.negSucc 0, .ofNat 6), .inr (.inr (some 82)), .inr (.inr (some 83)), .inr (.inr (some 84)), .inr (.inr (some 85)), .inr (.inr (some 86)), .inl am_top, .inr (.inr (some 87))])))
noncomputable def va_h202 : am_H := (80, [(62, va_c87)])
noncomputable def va_c88 : am_C := .inr (.inr (.inr (7, [.inr (.inr (some 71)), .inr (.inr (some 72)), .inl (.ofNat 2, .ofNat 5), .inl (.ofNat 2, .ofNat 5), .inl (.ofNat 0, .ofNat 5), .inr (.inr (some 73)), .inl (.ofNat 2, .ofNat 5), .inl (.ofNat 2, .ofNat 5), .inl (.ofNat 0, .ofNat 5), .inl am_top, .inl am_top, .inl am_top, .inr (.inr (some 74)), .inl (.ofNat 0, .ofNat 160), .inl (.ofNat 23, .ofNat 23), .inl (.ofNat 0, .ofNat 160), .inl (.ofNat 0, .ofNat 3), .inl am_top, .inl (.ofNat 0, .ofNat 0), .inl am_top, .inr (.inr (some 75)), .inr (.inr (some 76)), .inr (.inr (some 77)), .inr (.inr (some 78)), .inr (.inr (some 79)), .inr (.inr (some 80)), .inr (.inr (some 81)), .inl (.negSucc 0, .ofNat 6), .inr (.inr (some 82)), .inr (.inr (some 83)), .inr (.inr (some 84)), .inr (.inr (some 85)), .inr (.inr (some 86)), .inl am_top, .inr (.inr (some 87))])))
noncomputable def va_h203 : am_H := (80, [(62, va_c88)])
noncomputable def va_c89 : am_C := .inr (.inr (.inr (7, [.inr (.inr (some 71)), .inr (.inr (some 72)), .inl (.ofNat 2, .ofNat 5), .inl (.ofNat 2, .ofNat 5), .inl (.ofNat 0, .ofNat 5), .inr (.inr (some 73)), .inl (.ofNat 2, .ofNat 5), .inl (.ofNat 2, .ofNat 5), .inl (.ofNat 0, .ofNat 5), .inl am_top, .inl am_top, .inl am_top, .inr (.inr (some 74)), .inl (.ofNat 0, .ofNat 160), .inl (.ofNat 24, .ofNat 24), .inl (.ofNat 0, .ofNat 160), .inl (.ofNat 0, .ofNat 3), .inl am_top, .inl (.ofNat 0, .ofNat 0), .inl am_top, .inr (.inr (some 75)), .inr (.inr (some 76)), .inr (.inr (some 77)), .inr (.inr (some 78)), .inr (.inr (some 79)), .inr (.inr (some 80)), .inr (.inr (some 81)), .inl (.negSucc 0, .ofNat 6), .inr (.inr (some 82)), .inr (.inr (some 83)), .inr (.inr (some 84)), .inr (.inr (some 85)), .inr (.inr (some 86)), .inl am_top, .inr (.inr (some 87))])))
noncomputable def va_h204 : am_H := (80, [(62, va_c89)])
noncomputable def va_c90 : am_C := .inr (.inr (.inr (7, [.inr (.inr (some 71)), .inr (.inr (some 72)), .inl (.ofNat 2, .ofNat 5), .inl (.ofNat 2, .ofNat 5), .inl (.ofNat 0, .ofNat 5), .inr (.inr (some 73)), .inl (.ofNat 2, .ofNat 5), .inl (.ofNat 2, .ofNat 5), .inl (.ofNat 0, .ofNat 5), .inl am_top, .inl am_top, .inl am_top, .inr (.inr (some 74)), .inl (.ofNat 0, .ofNat 160), .inl (.ofNat 25, .ofNat 25), .inl (.ofNat 0, .ofNat 160), .inl (.ofNat 0, .ofNat 3), .inl am_top, .inl (.ofNat 0, .ofNat 0), .inl am_top, .inr (.inr (some 75)), .inr (.inr (some 76)), .inr (.inr (some 77)), .inr (.inr (some 78)), .inr (.inr (some 79)), .inr (.inr (some 80)), .inr (.inr (some 81)), .inl (.negSucc 0, .ofNat 6), .inr (.inr (some 82)), .inr (.inr (some 83)), .inr (.inr (some 84)), .inr (.inr (some 85)), .inr (.inr (some 86)), .inl am_top, .inr (.inr (some 87))])))
noncomputable def va_h205 : am_H := (80, [(62, va_c90)])
noncomputable def va_c91 : am_C := .inr (.inr (.inr (7, [.inr (.inr (some 71)), .inr (.inr (some 72)), .inl (.ofNat 2, .ofNat 5), .inl (.ofNat 2, .ofNat 5), .inl (.ofNat 0, .ofNat 5), .inr (.inr (some 73)), .inl (.ofNat 2, .ofNat 5), .inl (.ofNat 2, .ofNat 5), .inl (.ofNat 0, .ofNat 5), .inl am_top, .inl am_top, .inl am_top, .inr (.inr (some 74)), .inl (.ofNat 0, .ofNat 160), .inl (.ofNat 26, .ofNat 26), .inl (.ofNat 0, .ofNat 160), .inl (.ofNat 0, .ofNat 3), .inl am_top, .inl (.ofNat 0, .ofNat 0), .inl am_top, .inr (.inr (some 75)), .inr (.inr (some 76)), .inr (.inr (some 77)), .inr (.inr (some 78)), .inr (.inr (some 79)), .inr (.inr (some 80)), .inr (.inr (some 81)), .inl (.negSucc 0, .ofNat 6), .inr (.inr (some 82)), .inr (.inr (some 83)), .inr (.inr (some 84)), .inr (.inr (some 85)), .inr (.inr (some 86)), .inl am_top, .inr (.inr (some 87))])))
noncomputable def va_h206 : am_H := (80, [(62, va_c91)])
noncomputable def va_c92 : am_C := .inr (.inr (.inr (7, [.inr (.inr (some 71)), .inr (.inr (some 72)), .inl (.ofNat 2, .ofNat 5), .inl (.ofNat 2, .ofNat 5), .inl (.ofNat 0, .ofNat 5), .inr (.inr (some 73)), .inl (.ofNat 2, .ofNat 5), .inl (.ofNat 2, .ofNat 5), .inl (.ofNat 0, .ofNat 5), .inl am_top, .inl am_top, .inl am_top, .inr (.inr (some 74)), .inl (.ofNat 0, .ofNat 160), .inl (.ofNat 27, .ofNat 27), .inl (.ofNat 0, .ofNat 160), .inl (.ofNat 0, .ofNat 3), .inl am_top, .inl (.ofNat 0, .ofNat 0), .inl am_top, .inr (.inr (some 75)), .inr (.inr (some 76)), .inr (.inr (some 77)), .inr (.inr (some 78)), .inr (.inr (some 79)), .inr (.inr (some 80)), .inr (.inr (some 81)), .inl (.negSucc 0, .ofNat 6), .inr (.inr (some 82)), .inr (.inr (some 83)), .inr (.inr (some 84)), .inr (.inr (some 85)), .inr (.inr (some 86)), .inl am_top, .inr (.inr (some 87))])))
noncomputable def va_h207 : am_H := (80, [(62, va_c92)])
noncomputable def va_c93 : am_C := .inr (.inr (.inr (7, [.inr (.inr (some 71)), .inr (.inr (some 72)), .inl (.ofNat 2, .ofNat 5), .inl (.ofNat 2, .ofNat 5), .inl (.ofNat 0, .ofNat 5), .inr (.inr (some 73)), .inl (.ofNat 2, .ofNat 5), .inl (.ofNat 2, .ofNat 5), .inl (.ofNat 0, .ofNat 5), .inl am_top, .inl am_top, .inl am_top, .inr (.inr (some 74)), .inl (.ofNat 0, .ofNat 160), .inl (.ofNat 28, .ofNat 28), .inl (.ofNat 0, .ofNat 160), .inl (.ofNat 0, .ofNat 3), .inl am_top, .inl (.ofNat 0, .ofNat 0), .inl am_top, .inr (.inr (some 75)), .inr (.inr (some 76)), .inr (.inr (some 77)), .inr (.inr (some 78)), .inr (.inr (some 79)), .inr (.inr (some 80)), .inr (.inr (some 81)), .inl (.negSucc 0, .ofNat 6), .inr (.inr (some 82)), .inr (.inr (some 83)), .inr (.inr (some 84)), .inr (.inr (some 85)), .inr (.inr (some 86)), .inl am_top, .inr (.inr (some 87))])))
noncomputable def va_h208 : am_H := (80, [(62, va_c93)])
noncomputable def va_c94 : am_C := .inr (.inr (.inr (7, [.inr (.inr (some 71)), .inr (.inr (some 72)), .inl (.ofNat 2, .ofNat 5), .inl (.ofNat 2, .ofNat 5), .inl (.ofNat 0, .ofNat 5), .inr (.inr (some 73)), .inl (.ofNat 2, .ofNat 5), .inl (.ofNat 2, .ofNat 5), .inl (.ofNat 0, .ofNat 5), .inl am_top, .inl am_top, .inl am_top, .inr (.inr (some 74)), .inl (.ofNat 0, .ofNat 160), .inl (.ofNat 29, .ofNat 29), .inl (.ofNat 0, .ofNat 160), .inl (.ofNat 0, .ofNat 3), .inl am_top, .inl (.ofNat 0, .ofNat 0), .inl am_top, .inr (.inr (some 75)), .inr (.inr (some 76)), .inr (.inr (some 77)), .inr (.inr (some 78)), .inr (.inr (some 79)), .inr (.inr (some 80)), .inr (.inr (some 81)), .inl (.negSucc 0, .ofNat 6), .inr (.inr (some 82)), .inr (.inr (some 83)), .inr (.inr (some 84)), .inr (.inr (some 85)), .inr (.inr (some 86)), .inl am_top, .inr (.inr (some 87))])))
noncomputable def va_h209 : am_H := (80, [(62, va_c94)])
noncomputable def va_c95 : am_C := .inr (.inr (.inr (7, [.inr (.inr (some 71)), .inr (.inr (some 72)), .inl (.ofNat 2, .ofNat 5), .inl (.ofNat 2, .ofNat 5), .inl (.ofNat 0, .ofNat 5), .inr (.inr (some 73)), .inl (.ofNat 2, .ofNat 5), .inl (.ofNat 2, .ofNat 5), .inl (.ofNat 0, .ofNat 5), .inl am_top, .inl am_top, .inl am_top, .inr (.inr (some 74)), .inl (.ofNat 0, .ofNat 160), .inl (.ofNat 30, .ofNat 30), .inl (.ofNat 0, .ofNat 160), .inl (.ofNat 0, .ofNat 3), .inl am_top, .inl (.ofNat 0, .ofNat 0), .inl am_top, .inr (.inr (some 75)), .inr (.inr (some 76)), .inr (.inr (some 77)), .inr (.inr (some 78)), .inr (.inr (some 79)), .inr (.inr (some 80)), .inr (.inr (some 81)), .inl (.negSucc 0, .ofNat 6), .inr (.inr (some 82)), .inr (.inr (some 83)), .inr (.inr (some 84)), .inr (.inr (some 85)), .inr (.inr (some 86)), .inl am_top, .inr (.inr (some 87))])))
noncomputable def va_h210 : am_H := (80, [(62, va_c95)])
noncomputable def va_c96 : am_C := .inr (.inr (.inr (7, [.inr (.inr (some 71)), .inr (.inr (some 72)), .inl (.ofNat 2, .ofNat 5), .inl (.ofNat 2, .ofNat 5), .inl (.ofNat 0, .ofNat 5), .inr (.inr (some 73)), .inl (.ofNat 2, .ofNat 5), .inl (.ofNat 2, .ofNat 5), .inl (.ofNat 0, .ofNat 5), .inl am_top, .inl am_top, .inl am_top, .inr (.inr (some 74)), .inl (.ofNat 0, .ofNat 160), .inl (.ofNat 31, .ofNat 31), .inl (.ofNat 0, .ofNat 160), .inl (.ofNat 0, .ofNat 3), .inl am_top, .inl (.ofNat 0, .ofNat 0), .inl am_top, .inr (.inr (some 75)), .inr (.inr (some 76)), .inr (.inr (some 77)), .inr (.inr (some 78)), .inr (.inr (some 79)), .inr (.inr (some 80)), .inr (.inr (some 81)), .inl (.negSucc 0, .ofNat 6), .inr (.inr (some 82)), .inr (.inr (some 83)), .inr (.inr (some 84)), .inr (.inr (some 85)), .inr (.inr (some 86)), .inl am_top, .inr (.inr (some 87))])))
noncomputable def va_h211 : am_H := (80, [(62, va_c96)])
noncomputable def va_c97 : am_C := .inr (.inr (.inr (7, [.inr (.inr (some 71)), .inr (.inr (some 72)), .inl (.ofNat 2, .ofNat 5), .inl (.ofNat 2, .ofNat 5), .inl (.ofNat 0, .ofNat 5), .inr (.inr (some 73)), .inl (.ofNat 2, .ofNat 5), .inl (.ofNat 2, .ofNat 5), .inl (.ofNat 0, .ofNat 5), .inl am_top, .inl am_top, .inl am_top, .inr (.inr (some 74)), .inl (.ofNat 0, .ofNat 160), .inl (.ofNat 32, .ofNat 32), .inl (.ofNat 0, .ofNat 160), .inl (.ofNat 0, .ofNat 3), .inl am_top, .inl (.ofNat 0, .ofNat 0), .inl am_top, .inr (.inr (some 75)), .inr (.inr (some 76)), .inr (.inr (some 77)), .inr (.inr (some 78)), .inr (.inr (some 79)), .inr (.inr (some 80)), .inr (.inr (some 81)), .inl (.negSucc 0, .ofNat 6), .inr (.inr (some 82)), .inr (.inr (some 83)), .inr (.inr (some 84)), .inr (.inr (some 85)), .inr (.inr (some 86)), .inl am_top, .inr (.inr (some 87))])))
noncomputable def va_h212 : am_H := (80, [(62, va_c97)])
noncomputable def va_c98 : am_C := .inr (.inr (.inr (7, [.inr (.inr (some 71)), .inr (.inr (some 72)), .inl (.ofNat 2, .ofNat 5), .inl (.ofNat 2, .ofNat 5), .inl (.ofNat 0, .ofNat 5), .inr (.inr (some 73)), .inl (.ofNat 2, .ofNat 5), .inl (.ofNat 2, .ofNat 5), .inl (.ofNat 0, .ofNat 5), .inl am_top, .inl am_top, .inl am_top, .inr (.inr (some 74)), .inl (.ofNat 0, .ofNat 160), .inl (.ofNat 33, .ofNat 33), .inl (.ofNat 0, .ofNat 160), .inl (.ofNat 0, .ofNat 3), .inl am_top, .inl (.ofNat 0, .ofNat 0), .inl am_top, .inr (.inr (some 75)), .inr (.inr (some 76)), .inr (.inr (some 77)), .inr (.inr (some 78)), .inr (.inr (some 79)), .inr (.inr (some 80)), .inr (.inr (some 81)), .inl (.negSucc 0, .ofNat 6), .inr (.inr (some 82)), .inr (.inr (some 83)), .inr (.inr (some 84)), .inr (.inr (some 85)), .inr (.inr (some 86)), .inl am_top, .inr (.inr (some 87))])))
noncomputable def va_h213 : am_H := (80, [(62, va_c98)])
noncomputable def va_c99 : am_C := .inr (.inr (.inr (7, [.inr (.inr (some 71)), .inr (.inr (some 72)), .inl (.ofNat 2, .ofNat 5), .inl (.ofNat 2, .ofNat 5), .inl (.ofNat 0, .ofNat 5), .inr (.inr (some 73)), .inl (.ofNat 2, .ofNat 5), .inl (.ofNat 2, .ofNat 5), .inl (.ofNat 0, .ofNat 5), .inl am_top, .inl am_top, .inl am_top, .inr (.inr (some 74)), .inl (.ofNat 0, .ofNat 160), .inl (.ofNat 34, .ofNat 34), .inl (.ofNat 0, .ofNat 160), .inl (.ofNat 0, .ofNat 3), .inl am_top, .inl (.ofNat 0, .ofNat 0), .inl am_top, .inr (.inr (some 75)), .inr (.inr (some 76)), .inr (.inr (some 77)), .inr (.inr (some 78)), .inr (.inr (some 79)), .inr (.inr (some 80)), .inr (.inr (some 81)), .inl (.negSucc 0, .ofNat 6), .inr (.inr (some 82)), .inr (.inr (some 83)), .inr (.inr (some 84)), .inr (.inr (some 85)), .inr (.inr (some 86)), .inl am_top, .inr (.inr (some 87))])))
noncomputable def va_h214 : am_H := (80, [(62, va_c99)])
noncomputable def va_c100 : am_C := .inr (.inr (.inr (7, [.inr (.inr (some 71)), .inr (.inr (some 72)), .inl (.ofNat 2, .ofNat 5), .inl (.ofNat 2, .ofNat 5), .inl (.ofNat 0, .ofNat 5), .inr (.inr (some 73)), .inl (.ofNat 2, .ofNat 5), .inl (.ofNat 2, .ofNat 5), .inl (.ofNat 0, .ofNat 5), .inl am_top, .inl am_top, .inl am_top, .inr (.inr (some 74)), .inl (.ofNat 0, .ofNat 160), .inl (.ofNat 35, .ofNat 35), .inl (.ofNat 0, .ofNat 160), .inl (.ofNat 0, .ofNat 3), .inl am_top, .inl (.ofNat 0, .ofNat 0), .inl am_top, .inr (.inr (some 75)), .inr (.inr (some 76)), .inr (.inr (some 77)), .inr (.inr (some 78)), .inr (.inr (some 79)), .inr (.inr (some 80)), .inr (.inr (some 81)), .inl (.negSucc 0, .ofNat 6), .inr (.inr (some 82)), .inr (.inr (some 83)), .inr (.inr (some 84)), .inr (.inr (some 85)), .inr (.inr (some 86)), .inl am_top, .inr (.inr (some 87))])))
noncomputable def va_h215 : am_H := (80, [(62, va_c100)])
noncomputable def va_c101 : am_C := .inr (.inr (.inr (7, [.inr (.inr (some 71)), .inr (.inr (some 72)), .inl (.ofNat 2, .ofNat 5), .inl (.ofNat 2, .ofNat 5), .inl (.ofNat 0, .ofNat 5), .inr (.inr (some 73)), .inl (.ofNat 2, .ofNat 5), .inl (.ofNat 2, .ofNat 5), .inl (.ofNat 0, .ofNat 5), .inl am_top, .inl am_top, .inl am_top, .inr (.inr (some 74)), .inl (.ofNat 0, .ofNat 160), .inl (.ofNat 36, .ofNat 36), .inl (.ofNat 0, .ofNat 160), .inl (.ofNat 0, .ofNat 3), .inl am_top, .inl (.ofNat 0, .ofNat 0), .inl am_top, .inr (.inr (some 75)), .inr (.inr (some 76)), .inr (.inr (some 77)), .inr (.inr (some 78)), .inr (.inr (some 79)), .inr (.inr (some 80)), .inr (.inr (some 81)), .inl (.negSucc 0, .ofNat 6), .inr (.inr (some 82)), .inr (.inr (some 83)), .inr (.inr (some 84)), .inr (.inr (some 85)), .inr (.inr (some 86)), .inl am_top, .inr (.inr (some 87))])))
noncomputable def va_h216 : am_H := (80, [(62, va_c101)])
noncomputable def va_c102 : am_C := .inr (.inr (.inr (7, [.inr (.inr (some 71)), .inr (.inr (some 72)), .inl (.ofNat 2, .ofNat 5), .inl (.ofNat 2, .ofNat 5), .inl (.ofNat 0, .ofNat 5), .inr (.inr (some 73)), .inl (.ofNat 2, .ofNat 5), .inl (.ofNat 2, .ofNat 5), .inl (.ofNat 0, .ofNat 5), .inl am_top, .inl am_top, .inl am_top, .inr (.inr (some 74)), .inl (.ofNat 0, .ofNat 160), .inl (.ofNat 37, .ofNat 37), .inl (.ofNat 0, .ofNat 160), .inl (.ofNat 0, .ofNat 3), .inl am_top, .inl (.ofNat 0, .ofNat 0), .inl am_top, .inr (.inr (some 75)), .inr (.inr (some 76)), .inr (.inr (some 77)), .inr (.inr (some 78)), .inr (.inr (some 79)), .inr (.inr (some 80)), .inr (.inr (some 81)), .inl (.negSucc 0, .ofNat 6), .inr (.inr (some 82)), .inr (.inr (some 83)), .inr (.inr (some 84)), .inr (.inr (some 85)), .inr (.inr (some 86)), .inl am_top, .inr (.inr (some 87))])))
noncomputable def va_h217 : am_H := (80, [(62, va_c102)])
noncomputable def va_c103 : am_C := .inr (.inr (.inr (7, [.inr (.inr (some 71)), .inr (.inr (some 72)), .inl (.ofNat 2, .ofNat 5), .inl (.ofNat 2, .ofNat 5), .inl (.ofNat 0, .ofNat 5), .inr (.inr (some 73)), .inl (.ofNat 2, .ofNat 5), .inl (.ofNat 2, .ofNat 5), .inl (.ofNat 0, .ofNat 5), .inl am_top, .inl am_top, .inl am_top, .inr (.inr (some 74)), .inl (.ofNat 0, .ofNat 160), .inl (.ofNat 38, .ofNat 38), .inl (.ofNat 0, .ofNat 160), .inl (.ofNat 0, .ofNat 3), .inl am_top, .inl (.ofNat 0, .ofNat 0), .inl am_top, .inr (.inr (some 75)), .inr (.inr (some 76)), .inr (.inr (some 77)), .inr (.inr (some 78)), .inr (.inr (some 79)), .inr (.inr (some 80)), .inr (.inr (some 81)), .inl (.negSucc 0, .ofNat 6), .inr (.inr (some 82)), .inr (.inr (some 83)), .inr (.inr (some 84)), .inr (.inr (some 85)), .inr (.inr (some 86)), .inl am_top, .inr (.inr (some 87))])))
noncomputable def va_h218 : am_H := (80, [(62, va_c103)])
noncomputable def va_c104 : am_C := .inr (.inr (.inr (7, [.inr (.inr (some 71)), .inr (.inr (some 72)), .inl (.ofNat 2, .ofNat 5), .inl (.ofNat 2, .ofNat 5), .inl (.ofNat 0, .ofNat 5), .inr (.inr (some 73)), .inl (.ofNat 2, .ofNat 5), .inl (.ofNat 2, .ofNat 5), .inl (.ofNat 0, .ofNat 5), .inl am_top, .inl am_top, .inl am_top, .inr (.inr (some 74)), .inl (.ofNat 0, .ofNat 160), .inl (.ofNat 39, .ofNat 39), .inl (.ofNat 0, .ofNat 160), .inl (.ofNat 0, .ofNat 3), .inl am_top, .inl (.ofNat 0, .ofNat 0), .inl am_top, .inr (.inr (some 75)), .inr (.inr (some 76)), .inr (.inr (some 77)), .inr (.inr (some 78)), .inr (.inr (some 79)), .inr (.inr (some 80)), .inr (.inr (some 81)), .inl (.negSucc 0, .ofNat 6), .inr (.inr (some 82)), .inr (.inr (some 83)), .inr (.inr (some 84)), .inr (.inr (some 85)), .inr (.inr (some 86)), .inl am_top, .inr (.inr (some 87))])))
noncomputable def va_h219 : am_H := (80, [(62, va_c104)])
noncomputable def va_c105 : am_C := .inr (.inr (.inr (7, [.inr (.inr (some 71)), .inr (.inr (some 72)), .inl (.ofNat 2, .ofNat 5), .inl (.ofNat 2, .ofNat 5), .inl (.ofNat 0, .ofNat 5), .inr (.inr (some 73)), .inl (.ofNat 2, .ofNat 5), .inl (.ofNat 2, .ofNat 5), .inl (.ofNat 0, .ofNat 5), .inl am_top, .inl am_top, .inl am_top, .inr (.inr (some 74)), .inl (.ofNat 0, .ofNat 160), .inl (.ofNat 40, .ofNat 40), .inl (.ofNat 0, .ofNat 160), .inl (.ofNat 0, .ofNat 3), .inl am_top, .inl (.ofNat 0, .ofNat 0), .inl am_top, .inr (.inr (some 75)), .inr (.inr (some 76)), .inr (.inr (some 77)), .inr (.inr (some 78)), .inr (.inr (some 79)), .inr (.inr (some 80)), .inr (.inr (some 81)), .inl (.negSucc 0, .ofNat 6), .inr (.inr (some 82)), .inr (.inr (some 83)), .inr (.inr (some 84)), .inr (.inr (some 85)), .inr (.inr (some 86)), .inl am_top, .inr (.inr (some 87))])))
noncomputable def va_h220 : am_H := (80, [(62, va_c105)])
noncomputable def va_c106 : am_C := .inr (.inr (.inr (7, [.inr (.inr (some 71)), .inr (.inr (some 72)), .inl (.ofNat 2, .ofNat 5), .inl (.ofNat 2, .ofNat 5), .inl (.ofNat 0, .ofNat 5), .inr (.inr (some 73)), .inl (.ofNat 2, .ofNat 5), .inl (.ofNat 2, .ofNat 5), .inl (.ofNat 0, .ofNat 5), .inl am_top, .inl am_top, .inl am_top, .inr (.inr (some 74)), .inl (.ofNat 0, .ofNat 160), .inl (.ofNat 41, .ofNat 41), .inl (.ofNat 0, .ofNat 160), .inl (.ofNat 0, .ofNat 3), .inl am_top, .inl (.ofNat 0, .ofNat 0), .inl am_top, .inr (.inr (some 75)), .inr (.inr (some 76)), .inr (.inr (some 77)), .inr (.inr (some 78)), .inr (.inr (some 79)), .inr (.inr (some 80)), .inr (.inr (some 81)), .inl (.negSucc 0, .ofNat 6), .inr (.inr (some 82)), .inr (.inr (some 83)), .inr (.inr (some 84)), .inr (.inr (some 85)), .inr (.inr (some 86)), .inl am_top, .inr (.inr (some 87))])))
noncomputable def va_h221 : am_H := (80, [(62, va_c106)])
noncomputable def va_c107 : am_C := .inr (.inr (.inr (7, [.inr (.inr (some 71)), .inr (.inr (some 72)), .inl (.ofNat 2, .ofNat 5), .inl (.ofNat 2, .ofNat 5), .inl (.ofNat 0, .ofNat 5), .inr (.inr (some 73)), .inl (.ofNat 2, .ofNat 5), .inl (.ofNat 2, .ofNat 5), .inl (.ofNat 0, .ofNat 5), .inl am_top, .inl am_top, .inl am_top, .inr (.inr (some 74)), .inl (.ofNat 0, .ofNat 160), .inl (.ofNat 42, .ofNat 42), .inl (.ofNat 0, .ofNat 160), .inl (.ofNat 0, .ofNat 3), .inl am_top, .inl (.ofNat 0, .ofNat 0), .inl am_top, .inr (.inr (some 75)), .inr (.inr (some 76)), .inr (.inr (some 77)), .inr (.inr (some 78)), .inr (.inr (some 79)), .inr (.inr (some 80)), .inr (.inr (some 81)), .inl (.negSucc 0, .ofNat 6), .inr (.inr (some 82)), .inr (.inr (some 83)), .inr (.inr (some 84)), .inr (.inr (some 85)), .inr (.inr (some 86)), .inl am_top, .inr (.inr (some 87))])))
noncomputable def va_h222 : am_H := (80, [(62, va_c107)])
noncomputable def va_c108 : am_C := .inr (.inr (.inr (7, [.inr (.inr (some 71)), .inr (.inr (some 72)), .inl (.ofNat 2, .ofNat 5), .inl (.ofNat 2, .ofNat 5), .inl (.ofNat 0, .ofNat 5), .inr (.inr (some 73)), .inl (.ofNat 2, .ofNat 5), .inl (.ofNat 2, .ofNat 5), .inl (.ofNat 0, .ofNat 5), .inl am_top, .inl am_top, .inl am_top, .inr (.inr (some 74)), .inl (.ofNat 0, .ofNat 160), .inl (.ofNat 43, .ofNat 43), .inl (.ofNat 0, .ofNat 160), .inl (.ofNat 0, .ofNat 3), .inl am_top, .inl (.ofNat 0, .ofNat 0), .inl am_top, .inr (.inr (some 75)), .inr (.inr (some 76)), .inr (.inr (some 77)), .inr (.inr (some 78)), .inr (.inr (some 79)), .inr (.inr (some 80)), .inr (.inr (some 81)), .inl (.negSucc 0, .ofNat 6), .inr (.inr (some 82)), .inr (.inr (some 83)), .inr (.inr (some 84)), .inr (.inr (some 85)), .inr (.inr (some 86)), .inl am_top, .inr (.inr (some 87))])))
noncomputable def va_h223 : am_H := (80, [(62, va_c108)])
noncomputable def va_c109 : am_C := .inr (.inr (.inr (7, [.inr (.inr (some 71)), .inr (.inr (some 72)), .inl (.ofNat 2, .ofNat 5), .inl (.ofNat 2, .ofNat 5), .inl (.ofNat 0, .ofNat 5), .inr (.inr (some 73)), .inl (.ofNat 2, .ofNat 5), .inl (.ofNat 2, .ofNat 5), .inl (.ofNat 0, .ofNat 5), .inl am_top, .inl am_top, .inl am_top, .inr (.inr (some 74)), .inl (.ofNat 0, .ofNat 160), .inl (.ofNat 44, .ofNat 44), .inl (.ofNat 0, .ofNat 160), .inl (.ofNat 0, .ofNat 3), .inl am_top, .inl (.ofNat 0, .ofNat 0), .inl am_top, .inr (.inr (some 75)), .inr (.inr (some 76)), .inr (.inr (some 77)), .inr (.inr (some 78)), .inr (.inr (some 79)), .inr (.inr (some 80)), .inr (.inr (some 81)), .inl (.negSucc 0, .ofNat 6), .inr (.inr (some 82)), .inr (.inr (some 83)), .inr (.inr (some 84)), .inr (.inr (some 85)), .inr (.inr (some 86)), .inl am_top, .inr (.inr (some 87))])))
noncomputable def va_h224 : am_H := (80, [(62, va_c109)])
noncomputable def va_c110 : am_C := .inr (.inr (.inr (7, [.inr (.inr (some 71)), .inr (.inr (some 72)), .inl (.ofNat 2, .ofNat 5), .inl (.ofNat 2, .ofNat 5), .inl (.ofNat 0, .ofNat 5), .inr (.inr (some 73)), .inl (.ofNat 2, .ofNat 5), .inl (.ofNat 2, .ofNat 5), .inl (.ofNat 0, .ofNat 5), .inl am_top, .inl am_top, .inl am_top, .inr (.inr (some 74)), .inl (.ofNat 0, .ofNat 160), .inl (.ofNat 45, .ofNat 45), .inl (.ofNat 0, .ofNat 160), .inl (.ofNat 0, .ofNat 3), .inl am_top, .inl (.ofNat 0, .ofNat 0), .inl am_top, .inr (.inr (some 75)), .inr (.inr (some 76)), .inr (.inr (some 77)), .inr (.inr (some 78)), .inr (.inr (some 79)), .inr (.inr (some 80)), .inr (.inr (some 81)), .inl (.negSucc 0, .ofNat 6), .inr (.inr (some 82)), .inr (.inr (some 83)), .inr (.inr (some 84)), .inr (.inr (some 85)), .inr (.inr (some 86)), .inl am_top, .inr (.inr (some 87))])))
noncomputable def va_h225 : am_H := (80, [(62, va_c110)])
noncomputable def va_c111 : am_C := .inr (.inr (.inr (7, [.inr (.inr (some 71)), .inr (.inr (some 72)), .inl (.ofNat 2, .ofNat 5), .inl (.ofNat 2, .ofNat 5), .inl (.ofNat 0, .ofNat 5), .inr (.inr (some 73)), .inl (.ofNat 2, .ofNat 5), .inl (.ofNat 2, .ofNat 5), .inl (.ofNat 0, .ofNat 5), .inl am_top, .inl am_top, .inl am_top, .inr (.inr (some 74)), .inl (.ofNat 0, .ofNat 160), .inl (.ofNat 46, .ofNat 46), .inl (.ofNat 0, .ofNat 160), .inl (.ofNat 0, .ofNat 3), .inl am_top, .inl (.ofNat 0, .ofNat 0), .inl am_top, .inr (.inr (some 75)), .inr (.inr (some 76)), .inr (.inr (some 77)), .inr (.inr (some 78)), .inr (.inr (some 79)), .inr (.inr (some 80)), .inr (.inr (some 81)), .inl (.negSucc 0, .ofNat 6), .inr (.inr (some 82)), .inr (.inr (some 83)), .inr (.inr (some 84)), .inr (.inr (some 85)), .inr (.inr (some 86)), .inl am_top, .inr (.inr (some 87))])))
noncomputable def va_h226 : am_H := (80, [(62, va_c111)])
noncomputable def va_c112 : am_C := .inr (.inr (.inr (7, [.inr (.inr (some 71)), .inr (.inr (some 72)), .inl (.ofNat 2, .ofNat 5), .inl (.ofNat 2, .ofNat 5), .inl (.ofNat 0, .ofNat 5), .inr (.inr (some 73)), .inl (.ofNat 2, .ofNat 5), .inl (.ofNat 2, .ofNat 5), .inl (.ofNat 0, .ofNat 5), .inl am_top, .inl am_top, .inl am_top, .inr (.inr (some 74)), .inl (.ofNat 0, .ofNat 160), .inl (.ofNat 47, .ofNat 47), .inl (.ofNat 0, .ofNat 160), .inl (.ofNat 0, .ofNat 3), .inl am_top, .inl (.ofNat 0, .ofNat 0), .inl am_top, .inr (.inr (some 75)), .inr (.inr (some 76)), .inr (.inr (some 77)), .inr (.inr (some 78)), .inr (.inr (some 79)), .inr (.inr (some 80)), .inr (.inr (some 81)), .inl (.negSucc 0, .ofNat 6), .inr (.inr (some 82)), .inr (.inr (some 83)), .inr (.inr (some 84)), .inr (.inr (some 85)), .inr (.inr (some 86)), .inl am_top, .inr (.inr (some 87))])))
noncomputable def va_h227 : am_H := (80, [(62, va_c112)])
noncomputable def va_c113 : am_C := .inr (.inr (.inr (7, [.inr (.inr (some 71)), .inr (.inr (some 72)), .inl (.ofNat 2, .ofNat 5), .inl (.ofNat 2, .ofNat 5), .inl (.ofNat 0, .ofNat 5), .inr (.inr (some 73)), .inl (.ofNat 2, .ofNat 5), .inl (.ofNat 2, .ofNat 5), .inl (.ofNat 0, .ofNat 5), .inl am_top, .inl am_top, .inl am_top, .inr (.inr (some 74)), .inl (.ofNat 0, .ofNat 160), .inl (.ofNat 48, .ofNat 48), .inl (.ofNat 0, .ofNat 160), .inl (.ofNat 0, .ofNat 3), .inl am_top, .inl (.ofNat 0, .ofNat 0), .inl am_top, .inr (.inr (some 75)), .inr (.inr (some 76)), .inr (.inr (some 77)), .inr (.inr (some 78)), .inr (.inr (some 79)), .inr (.inr (some 80)), .inr (.inr (some 81)), .inl (.negSucc 0, .ofNat 6), .inr (.inr (some 82)), .inr (.inr (some 83)), .inr (.inr (some 84)), .inr (.inr (some 85)), .inr (.inr (some 86)), .inl am_top, .inr (.inr (some 87))])))
noncomputable def va_h228 : am_H := (80, [(62, va_c113)])
noncomputable def va_c114 : am_C := .inr (.inr (.inr (7, [.inr (.inr (some 71)), .inr (.inr (some 72)), .inl (.ofNat 2, .ofNat 5), .inl (.ofNat 2, .ofNat 5), .inl (.ofNat 0, .ofNat 5), .inr (.inr (some 73)), .inl (.ofNat 2, .ofNat 5), .inl (.ofNat 2, .ofNat 5), .inl (.ofNat 0, .ofNat 5), .inl am_top, .inl am_top, .inl am_top, .inr (.inr (some 74)), .inl (.ofNat 0, .ofNat 160), .inl (.ofNat 49, .ofNat 49), .inl (.ofNat 0, .ofNat 160), .inl (.ofNat 0, .ofNat 3), .inl am_top, .inl (.ofNat 0, .ofNat 0), .inl am_top, .inr (.inr (some 75)), .inr (.inr (some 76)), .inr (.inr (some 77)), .inr (.inr (some 78)), .inr (.inr (some 79)), .inr (.inr (some 80)), .inr (.inr (some 81)), .inl (.negSucc 0, .ofNat 6), .inr (.inr (some 82)), .inr (.inr (some 83)), .inr (.inr (some 84)), .inr (.inr (some 85)), .inr (.inr (some 86)), .inl am_top, .inr (.inr (some 87))])))
noncomputable def va_h229 : am_H := (80, [(62, va_c114)])
noncomputable def va_c115 : am_C := .inr (.inr (.inr (7, [.inr (.inr (some 71)), .inr (.inr (some 72)), .inl (.ofNat 2, .ofNat 5), .inl (.ofNat 2, .ofNat 5), .inl (.ofNat 0, .ofNat 5), .inr (.inr (some 73)), .inl (.ofNat 2, .ofNat 5), .inl (.ofNat 2, .ofNat 5), .inl (.ofNat 0, .ofNat 5), .inl am_top, .inl am_top, .inl am_top, .inr (.inr (some 74)), .inl (.ofNat 0, .ofNat 160), .inl (.ofNat 50, .ofNat 50), .inl (.ofNat 0, .ofNat 160), .inl (.ofNat 0, .ofNat 3), .inl am_top, .inl (.ofNat 0, .ofNat 0), .inl am_top, .inr (.inr (some 75)), .inr (.inr (some 76)), .inr (.inr (some 77)), .inr (.inr (some 78)), .inr (.inr (some 79)), .inr (.inr (some 80)), .inr (.inr (some 81)), .inl (.negSucc 0, .ofNat 6), .inr (.inr (some 82)), .inr (.inr (some 83)), .inr (.inr (some 84)), .inr (.inr (some 85)), .inr (.inr (some 86)), .inl am_top, .inr (.inr (some 87))])))
noncomputable def va_h230 : am_H := (80, [(62, va_c115)])
noncomputable def va_c116 : am_C := .inr (.inr (.inr (7, [.inr (.inr (some 71)), .inr (.inr (some 72)), .inl (.ofNat 2, .ofNat 5), .inl (.ofNat 2, .ofNat 5), .inl (.ofNat 0, .ofNat 5), .inr (.inr (some 73)), .inl (.ofNat 2, .ofNat 5), .inl (.ofNat 2, .ofNat 5), .inl (.ofNat 0, .ofNat 5), .inl am_top, .inl am_top, .inl am_top, .inr (.inr (some 74)), .inl (.ofNat 0, .ofNat 160), .inl (.ofNat 51, .ofNat 51), .inl (.ofNat 0, .ofNat 160), .inl (.ofNat 0, .ofNat 3), .inl am_top, .inl (.ofNat 0, .ofNat 0), .inl am_top, .inr (.inr (some 75)), .inr (.inr (some 76)), .inr (.inr (some 77)), .inr (.inr (some 78)), .inr (.inr (some 79)), .inr (.inr (some 80)), .inr (.inr (some 81)), .inl (.negSucc 0, .ofNat 6), .inr (.inr (some 82)), .inr (.inr (some 83)), .inr (.inr (some 84)), .inr (.inr (some 85)), .inr (.inr (some 86)), .inl am_top, .inr (.inr (some 87))])))
noncomputable def va_h231 : am_H := (80, [(62, va_c116)])
noncomputable def va_c117 : am_C := .inr (.inr (.inr (7, [.inr (.inr (some 71)), .inr (.inr (some 72)), .inl (.ofNat 2, .ofNat 5), .inl (.ofNat 2, .ofNat 5), .inl (.ofNat 0, .ofNat 5), .inr (.inr (some 73)), .inl (.ofNat 2, .ofNat 5), .inl (.ofNat 2, .ofNat 5), .inl (.ofNat 0, .ofNat 5), .inl am_top, .inl am_top, .inl am_top, .inr (.inr (some 74)), .inl (.ofNat 0, .ofNat 160), .inl (.ofNat 52, .ofNat 52), .inl (.ofNat 0, .ofNat 160), .inl (.ofNat 0, .ofNat 3), .inl am_top, .inl (.ofNat 0, .ofNat 0), .inl am_top, .inr (.inr (some 75)), .inr (.inr (some 76)), .inr (.inr (some 77)), .inr (.inr (some 78)), .inr (.inr (some 79)), .inr (.inr (some 80)), .inr (.inr (some 81)), .inl (.negSucc 0, .ofNat 6), .inr (.inr (some 82)), .inr (.inr (some 83)), .inr (.inr (some 84)), .inr (.inr (some 85)), .inr (.inr (some 86)), .inl am_top, .inr (.inr (some 87))])))
noncomputable def va_h232 : am_H := (80, [(62, va_c117)])
noncomputable def va_c118 : am_C := .inr (.inr (.inr (7, [.inr (.inr (some 71)), .inr (.inr (some 72)), .inl (.ofNat 2, .ofNat 5), .inl (.ofNat 2, .ofNat 5), .inl (.ofNat 0, .ofNat 5), .inr (.inr (some 73)), .inl (.ofNat 2, .ofNat 5), .inl (.ofNat 2, .ofNat 5), .inl (.ofNat 0, .ofNat 5), .inl am_top, .inl am_top, .inl am_top, .inr (.inr (some 74)), .inl (.ofNat 0, .ofNat 160), .inl (.ofNat 53, .ofNat 53), .inl (.ofNat 0, .ofNat 160), .inl (.ofNat 0, .ofNat 3), .inl am_top, .inl (.ofNat 0, .ofNat 0), .inl am_top, .inr (.inr (some 75)), .inr (.inr (some 76)), .inr (.inr (some 77)), .inr (.inr (some 78)), .inr (.inr (some 79)), .inr (.inr (some 80)), .inr (.inr (some 81)), .inl (.negSucc 0, .ofNat 6), .inr (.inr (some 82)), .inr (.inr (some 83)), .inr (.inr (some 84)), .inr (.inr (some 85)), .inr (.inr (some 86)), .inl am_top, .inr (.inr (some 87))])))
noncomputable def va_h233 : am_H := (80, [(62, va_c118)])
noncomputable def va_c119 : am_C := .inr (.inr (.inr (7, [.inr (.inr (some 71)), .inr (.inr (some 72)), .inl (.ofNat 2, .ofNat 5), .inl (.ofNat 2, .ofNat 5), .inl (.ofNat 0, .ofNat 5), .inr (.inr (some 73)), .inl (.ofNat 2, .ofNat 5), .inl (.ofNat 2, .ofNat 5), .inl (.ofNat 0, .ofNat 5), .inl am_top, .inl am_top, .inl am_top, .inr (.inr (some 74)), .inl (.ofNat 0, .ofNat 160), .inl (.ofNat 54, .ofNat 54), .inl (.ofNat 0, .ofNat 160), .inl (.ofNat 0, .ofNat 3), .inl am_top, .inl (.ofNat 0, .ofNat 0), .inl am_top, .inr (.inr (some 75)), .inr (.inr (some 76)), .inr (.inr (some 77)), .inr (.inr (some 78)), .inr (.inr (some 79)), .inr (.inr (some 80)), .inr (.inr (some 81)), .inl (.negSucc 0, .ofNat 6), .inr (.inr (some 82)), .inr (.inr (some 83)), .inr (.inr (some 84)), .inr (.inr (some 85)), .inr (.inr (some 86)), .inl am_top, .inr (.inr (some 87))])))
noncomputable def va_h234 : am_H := (80, [(62, va_c119)])
noncomputable def va_c120 : am_C := .inr (.inr (.inr (7, [.inr (.inr (some 71)), .inr (.inr (some 72)), .inl (.ofNat 2, .ofNat 5), .inl (.ofNat 2, .ofNat 5), .inl (.ofNat 0, .ofNat 5), .inr (.inr (some 73)), .inl (.ofNat 2, .ofNat 5), .inl (.ofNat 2, .ofNat 5), .inl (.ofNat 0, .ofNat 5), .inl am_top, .inl am_top, .inl am_top, .inr (.inr (some 74)), .inl (.ofNat 0, .ofNat 160), .inl (.ofNat 55, .ofNat 55), .inl (.ofNat 0, .ofNat 160), .inl (.ofNat 0, .ofNat 3), .inl am_top, .inl (.ofNat 0, .ofNat 0), .inl am_top, .inr (.inr (some 75)), .inr (.inr (some 76)), .inr (.inr (some 77)), .inr (.inr (some 78)), .inr (.inr (some 79)), .inr (.inr (some 80)), .inr (.inr (some 81)), .inl (.negSucc 0, .ofNat 6), .inr (.inr (some 82)), .inr (.inr (some 83)), .inr (.inr (some 84)), .inr (.inr (some 85)), .inr (.inr (some 86)), .inl am_top, .inr (.inr (some 87))])))
noncomputable def va_h235 : am_H := (80, [(62, va_c120)])
noncomputable def va_c121 : am_C := .inr (.inr (.inr (7, [.inr (.inr (some 71)), .inr (.inr (some 72)), .inl (.ofNat 2, .ofNat 5), .inl (.ofNat 2, .ofNat 5), .inl (.ofNat 0, .ofNat 5), .inr (.inr (some 73)), .inl (.ofNat 2, .ofNat 5), .inl (.ofNat 2, .ofNat 5), .inl (.ofNat 0, .ofNat 5), .inl am_top, .inl am_top, .inl am_top, .inr (.inr (some 74)), .inl (.ofNat 0, .ofNat 160), .inl (.ofNat 56, .ofNat 56), .inl (.ofNat 0, .ofNat 160), .inl (.ofNat 0, .ofNat 3), .inl am_top, .inl (.ofNat 0, .ofNat 0), .inl am_top, .inr (.inr (some 75)), .inr (.inr (some 76)), .inr (.inr (some 77)), .inr (.inr (some 78)), .inr (.inr (some 79)), .inr (.inr (some 80)), .inr (.inr (some 81)), .inl (.negSucc 0, .ofNat 6), .inr (.inr (some 82)), .inr (.inr (some 83)), .inr (.inr (some 84)), .inr (.inr (some 85)), .inr (.inr (some 86)), .inl am_top, .inr (.inr (some 87))])))
noncomputable def va_h236 : am_H := (80, [(62, va_c121)])
noncomputable def va_c122 : am_C := .inr (.inr (.inr (7, [.inr (.inr (some 71)), .inr (.inr (some 72)), .inl (.ofNat 2, .ofNat 5), .inl (.ofNat 2, .ofNat 5), .inl (.ofNat 0, .ofNat 5), .inr (.inr (some 73)), .inl (.ofNat 2, .ofNat 5), .inl (.ofNat 2, .ofNat 5), .inl (.ofNat 0, .ofNat 5), .inl am_top, .inl am_top, .inl am_top, .inr (.inr (some 74)), .inl (.ofNat 0, .ofNat 160), .inl (.ofNat 57, .ofNat 57), .inl (.ofNat 0, .ofNat 160), .inl (.ofNat 0, .ofNat 3), .inl am_top, .inl (.ofNat 0, .ofNat 0), .inl am_top, .inr (.inr (some 75)), .inr (.inr (some 76)), .inr (.inr (some 77)), .inr (.inr (some 78)), .inr (.inr (some 79)), .inr (.inr (some 80)), .inr (.inr (some 81)), .inl (.negSucc 0, .ofNat 6), .inr (.inr (some 82)), .inr (.inr (some 83)), .inr (.inr (some 84)), .inr (.inr (some 85)), .inr (.inr (some 86)), .inl am_top, .inr (.inr (some 87))])))
noncomputable def va_h237 : am_H := (80, [(62, va_c122)])
noncomputable def va_c123 : am_C := .inr (.inr (.inr (7, [.inr (.inr (some 71)), .inr (.inr (some 72)), .inl (.ofNat 2, .ofNat 5), .inl (.ofNat 2, .ofNat 5), .inl (.ofNat 0, .ofNat 5), .inr (.inr (some 73)), .inl (.ofNat 2, .ofNat 5), .inl (.ofNat 2, .ofNat 5), .inl (.ofNat 0, .ofNat 5), .inl am_top, .inl am_top, .inl am_top, .inr (.inr (some 74)), .inl (.ofNat 0, .ofNat 160), .inl (.ofNat 58, .ofNat 58), .inl (.ofNat 0, .ofNat 160), .inl (.ofNat 0, .ofNat 3), .inl am_top, .inl (.ofNat 0, .ofNat 0), .inl am_top, .inr (.inr (some 75)), .inr (.inr (some 76)), .inr (.inr (some 77)), .inr (.inr (some 78)), .inr (.inr (some 79)), .inr (.inr (some 80)), .inr (.inr (some 81)), .inl (.negSucc 0, .ofNat 6), .inr (.inr (some 82)), .inr (.inr (some 83)), .inr (.inr (some 84)), .inr (.inr (some 85)), .inr (.inr (some 86)), .inl am_top, .inr (.inr (some 87))])))
noncomputable def va_h238 : am_H := (80, [(62, va_c123)])
noncomputable def va_c124 : am_C := .inr (.inr (.inr (7, [.inr (.inr (some 71)), .inr (.inr (some 72)), .inl (.ofNat 2, .ofNat 5), .inl (.ofNat 2, .ofNat 5), .inl (.ofNat 0, .ofNat 5), .inr (.inr (some 73)), .inl (.ofNat 2, .ofNat 5), .inl (.ofNat 2, .ofNat 5), .inl (.ofNat 0, .ofNat 5), .inl am_top, .inl am_top, .inl am_top, .inr (.inr (some 74)), .inl (.ofNat 0, .ofNat 160), .inl (.ofNat 59, .ofNat 59), .inl (.ofNat 0, .ofNat 160), .inl (.ofNat 0, .ofNat 3), .inl am_top, .inl (.ofNat 0, .ofNat 0), .inl am_top, .inr (.inr (some 75)), .inr (.inr (some 76)), .inr (.inr (some 77)), .inr (.inr (some 78)), .inr (.inr (some 79)), .inr (.inr (some 80)), .inr (.inr (some 81)), .inl (.negSucc 0, .ofNat 6), .inr (.inr (some 82)), .inr (.inr (some 83)), .inr (.inr (some 84)), .inr (.inr (some 85)), .inr (.inr (some 86)), .inl am_top, .inr (.inr (some 87))])))
noncomputable def va_h239 : am_H := (80, [(62, va_c124)])
noncomputable def va_c125 : am_C := .inr (.inr (.inr (7, [.inr (.inr (some 71)), .inr (.inr (some 72)), .inl (.ofNat 2, .ofNat 5), .inl (.ofNat 2, .ofNat 5), .inl (.ofNat 0, .ofNat 5), .inr (.inr (some 73)), .inl (.ofNat 2, .ofNat 5), .inl (.ofNat 2, .ofNat 5), .inl (.ofNat 0, .ofNat 5), .inl am_top, .inl am_top, .inl am_top, .inr (.inr (some 74)), .inl (.ofNat 0, .ofNat 160), .inl (.ofNat 60, .ofNat 60), .inl (.ofNat 0, .ofNat 160), .inl (.ofNat 0, .ofNat 3), .inl am_top, .inl (.ofNat 0, .ofNat 0), .inl am_top, .inr (.inr (some 75)), .inr (.inr (some 76)), .inr (.inr (some 77)), .inr (.inr (some 78)), .inr (.inr (some 79)), .inr (.inr (some 80)), .inr (.inr (some 81)), .inl (.negSucc 0, .ofNat 6), .inr (.inr (some 82)), .inr (.inr (some 83)), .inr (.inr (some 84)), .inr (.inr (some 85)), .inr (.inr (some 86)), .inl am_top, .inr (.inr (some 87))])))
noncomputable def va_h240 : am_H := (80, [(62, va_c125)])
noncomputable def va_c126 : am_C := .inr (.inr (.inr (7, [.inr (.inr (some 71)), .inr (.inr (some 72)), .inl (.ofNat 2, .ofNat 5), .inl (.ofNat 2, .ofNat 5), .inl (.ofNat 0, .ofNat 5), .inr (.inr (some 73)), .inl (.ofNat 2, .ofNat 5), .inl (.ofNat 2, .ofNat 5), .inl (.ofNat 0, .ofNat 5), .inl am_top, .inl am_top, .inl am_top, .inr (.inr (some 74)), .inl (.ofNat 0, .ofNat 160), .inl (.ofNat 61, .ofNat 61), .inl (.ofNat 0, .ofNat 160), .inl (.ofNat 0, .ofNat 3), .inl am_top, .inl (.ofNat 0, .ofNat 0), .inl am_top, .inr (.inr (some 75)), .inr (.inr (some 76)), .inr (.inr (some 77)), .inr (.inr (some 78)), .inr (.inr (some 79)), .inr (.inr (some 80)), .inr (.inr (some 81)), .inl (.negSucc 0, .ofNat 6), .inr (.inr (some 82)), .inr (.inr (some 83)), .inr (.inr (some 84)), .inr (.inr (some 85)), .inr (.inr (some 86)), .inl am_top, .inr (.inr (some 87))])))
noncomputable def va_h241 : am_H := (80, [(62, va_c126)])
noncomputable def va_c127 : am_C := .inr (.inr (.inr (7, [.inr (.inr (some 71)), .inr (.inr (some 72)), .inl (.ofNat 2, .ofNat 5), .inl (.ofNat 2, .ofNat 5), .inl (.ofNat 0, .ofNat 5), .inr (.inr (some 73)), .inl (.ofNat 2, .ofNat 5), .inl (.ofNat 2, .ofNat 5), .inl (.ofNat 0, .ofNat 5), .inl am_top, .inl am_top, .inl am_top, .inr (.inr (some 74)), .inl (.ofNat 0, .ofNat 160), .inl (.ofNat 62, .ofNat 62), .inl (.ofNat 0, .ofNat 160), .inl (.ofNat 0, .ofNat 3), .inl am_top, .inl (.ofNat 0, .ofNat 0), .inl am_top, .inr (.inr (some 75)), .inr (.inr (some 76)), .inr (.inr (some 77)), .inr (.inr (some 78)), .inr (.inr (some 79)), .inr (.inr (some 80)), .inr (.inr (some 81)), .inl (.negSucc 0, .ofNat 6), .inr (.inr (some 82)), .inr (.inr (some 83)), .inr (.inr (some 84)), .inr (.inr (some 85)), .inr (.inr (some 86)), .inl am_top, .inr (.inr (some 87))])))
noncomputable def va_h242 : am_H := (80, [(62, va_c127)])
noncomputable def va_c128 : am_C := .inr (.inr (.inr (7, [.inr (.inr (some 71)), .inr (.inr (some 72)), .inl (.ofNat 2, .ofNat 5), .inl (.ofNat 2, .ofNat 5), .inl (.ofNat 0, .ofNat 5), .inr (.inr (some 73)), .inl (.ofNat 2, .ofNat 5), .inl (.ofNat 2, .ofNat 5), .inl (.ofNat 0, .ofNat 5), .inl am_top, .inl am_top, .inl am_top, .inr (.inr (some 74)), .inl (.ofNat 0, .ofNat 160), .inl (.ofNat 63, .ofNat 63), .inl (.ofNat 0, .ofNat 160), .inl (.ofNat 0, .ofNat 3), .inl am_top, .inl (.ofNat 0, .ofNat 0), .inl am_top, .inr (.inr (some 75)), .inr (.inr (some 76)), .inr (.inr (some 77)), .inr (.inr (some 78)), .inr (.inr (some 79)), .inr (.inr (some 80)), .inr (.inr (some 81)), .inl (.negSucc 0, .ofNat 6), .inr (.inr (some 82)), .inr (.inr (some 83)), .inr (.inr (some 84)), .inr (.inr (some 85)), .inr (.inr (some 86)), .inl am_top, .inr (.inr (some 87))])))
noncomputable def va_h243 : am_H := (80, [(62, va_c128)])
noncomputable def va_c129 : am_C := .inr (.inr (.inr (7, [.inr (.inr (some 71)), .inr (.inr (some 72)), .inl (.ofNat 2, .ofNat 5), .inl (.ofNat 2, .ofNat 5), .inl (.ofNat 0, .ofNat 5), .inr (.inr (some 73)), .inl (.ofNat 2, .ofNat 5), .inl (.ofNat 2, .ofNat 5), .inl (.ofNat 0, .ofNat 5), .inl am_top, .inl am_top, .inl am_top, .inr (.inr (some 74)), .inl (.ofNat 0, .ofNat 160), .inl (.ofNat 64, .ofNat 64), .inl (.ofNat 0, .ofNat 160), .inl (.ofNat 0, .ofNat 3), .inl am_top, .inl (.ofNat 0, .ofNat 0), .inl am_top, .inr (.inr (some 75)), .inr (.inr (some 76)), .inr (.inr (some 77)), .inr (.inr (some 78)), .inr (.inr (some 79)), .inr (.inr (some 80)), .inr (.inr (some 81)), .inl (.negSucc 0, .ofNat 6), .inr (.inr (some 82)), .inr (.inr (some 83)), .inr (.inr (some 84)), .inr (.inr (some 85)), .inr (.inr (some 86)), .inl am_top, .inr (.inr (some 87))])))
noncomputable def va_h244 : am_H := (80, [(62, va_c129)])
noncomputable def va_c130 : am_C := .inr (.inr (.inr (7, [.inr (.inr (some 71)), .inr (.inr (some 72)), .inl (.ofNat 2, .ofNat 5), .inl (.ofNat 2, .ofNat 5), .inl (.ofNat 0, .ofNat 5), .inr (.inr (some 73)), .inl (.ofNat 2, .ofNat 5), .inl (.ofNat 2, .ofNat 5), .inl (.ofNat 0, .ofNat 5), .inl am_top, .inl am_top, .inl am_top, .inr (.inr (some 74)), .inl (.ofNat 0, .ofNat 160), .inl (.ofNat 65, .ofNat 65), .inl (.ofNat 0, .ofNat 160), .inl (.ofNat 0, .ofNat 3), .inl am_top, .inl (.ofNat 0, .ofNat 0), .inl am_top, .inr (.inr (some 75)), .inr (.inr (some 76)), .inr (.inr (some 77)), .inr (.inr (some 78)), .inr (.inr (some 79)), .inr (.inr (some 80)), .inr (.inr (some 81)), .inl (.negSucc 0, .ofNat 6), .inr (.inr (some 82)), .inr (.inr (some 83)), .inr (.inr (some 84)), .inr (.inr (some 85)), .inr (.inr (some 86)), .inl am_top, .inr (.inr (some 87))])))
noncomputable def va_h245 : am_H := (80, [(62, va_c130)])
noncomputable def va_c131 : am_C := .inr (.inr (.inr (7, [.inr (.inr (some 71)), .inr (.inr (some 72)), .inl (.ofNat 2, .ofNat 5), .inl (.ofNat 2, .ofNat 5), .inl (.ofNat 0, .ofNat 5), .inr (.inr (some 73)), .inl (.ofNat 2, .ofNat 5), .inl (.ofNat 2, .ofNat 5), .inl (.ofNat 0, .ofNat 5), .inl am_top, .inl am_top, .inl am_top, .inr (.inr (some 74)), .inl (.ofNat 0, .ofNat 160), .inl (.ofNat 66, .ofNat 66), .inl (.ofNat 0, .ofNat 160), .inl (.ofNat 0, .ofNat 3), .inl am_top, .inl (.ofNat 0, .ofNat 0), .inl am_top, .inr (.inr (some 75)), .inr (.inr (some 76)), .inr (.inr (some 77)), .inr (.inr (some 78)), .inr (.inr (some 79)), .inr (.inr (some 80)), .inr (.inr (some 81)), .inl (.negSucc 0, .ofNat 6), .inr (.inr (some 82)), .inr (.inr (some 83)), .inr (.inr (some 84)), .inr (.inr (some 85)), .inr (.inr (some 86)), .inl am_top, .inr (.inr (some 87))])))
noncomputable def va_h246 : am_H := (80, [(62, va_c131)])
noncomputable def va_c132 : am_C := .inr (.inr (.inr (7, [.inr (.inr (some 71)), .inr (.inr (some 72)), .inl (.ofNat 2, .ofNat 5), .inl (.ofNat 2, .ofNat 5), .inl (.ofNat 0, .ofNat 5), .inr (.inr (some 73)), .inl (.ofNat 2, .ofNat 5), .inl (.ofNat 2, .ofNat 5), .inl (.ofNat 0, .ofNat 5), .inl am_top, .inl am_top, .inl am_top, .inr (.inr (some 74)), .inl (.ofNat 0, .ofNat 160), .inl (.ofNat 67, .ofNat 67), .inl (.ofNat 0, .ofNat 160), .inl (.ofNat 0, .ofNat 3), .inl am_top, .inl (.ofNat 0, .ofNat 0), .inl am_top, .inr (.inr (some 75)), .inr (.inr (some 76)), .inr (.inr (some 77)), .inr (.inr (some 78)), .inr (.inr (some 79)), .inr (.inr (some 80)), .inr (.inr (some 81)), .inl (.negSucc 0, .ofNat 6), .inr (.inr (some 82)), .inr (.inr (some 83)), .inr (.inr (some 84)), .inr (.inr (some 85)), .inr (.inr (some 86)), .inl am_top, .inr (.inr (some 87))])))
noncomputable def va_h247 : am_H := (80, [(62, va_c132)])
noncomputable def va_c133 : am_C := .inr (.inr (.inr (7, [.inr (.inr (some 71)), .inr (.inr (some 72)), .inl (.ofNat 2, .ofNat 5), .inl (.ofNat 2, .ofNat 5), .inl (.ofNat 0, .ofNat 5), .inr (.inr (some 73)), .inl (.ofNat 2, .ofNat 5), .inl (.ofNat 2, .ofNat 5), .inl (.ofNat 0, .ofNat 5), .inl am_top, .inl am_top, .inl am_top, .inr (.inr (some 74)), .inl (.ofNat 0, .ofNat 160), .inl (.ofNat 68, .ofNat 68), .inl (.ofNat 0, .ofNat 160), .inl (.ofNat 0, .ofNat 3), .inl am_top, .inl (.ofNat 0, .ofNat 0), .inl am_top, .inr (.inr (some 75)), .inr (.inr (some 76)), .inr (.inr (some 77)), .inr (.inr (some 78)), .inr (.inr (some 79)), .inr (.inr (some 80)), .inr (.inr (some 81)), .inl (.negSucc 0, .ofNat 6), .inr (.inr (some 82)), .inr (.inr (some 83)), .inr (.inr (some 84)), .inr (.inr (some 85)), .inr (.inr (some 86)), .inl am_top, .inr (.inr (some 87))])))
noncomputable def va_h248 : am_H := (80, [(62, va_c133)])
noncomputable def va_c134 : am_C := .inr (.inr (.inr (7, [.inr (.inr (some 71)), .inr (.inr (some 72)), .inl (.ofNat 2, .ofNat 5), .inl (.ofNat 2, .ofNat 5), .inl (.ofNat 0, .ofNat 5), .inr (.inr (some 73)), .inl (.ofNat 2, .ofNat 5), .inl (.ofNat 2, .ofNat 5), .inl (.ofNat 0, .ofNat 5), .inl am_top, .inl am_top, .inl am_top, .inr (.inr (some 74)), .inl (.ofNat 0, .ofNat 160), .inl (.ofNat 69, .ofNat 69), .inl (.ofNat 0, .ofNat 160), .inl (.ofNat 0, .ofNat 3), .inl am_top, .inl (.ofNat 0, .ofNat 0), .inl am_top, .inr (.inr (some 75)), .inr (.inr (some 76)), .inr (.inr (some 77)), .inr (.inr (some 78)), .inr (.inr (some 79)), .inr (.inr (some 80)), .inr (.inr (some 81)), .inl (.negSucc 0, .ofNat 6), .inr (.inr (some 82)), .inr (.inr (some 83)), .inr (.inr (some 84)), .inr (.inr (some 85)), .inr (.inr (some 86)), .inl am_top, .inr (.inr (some 87))])))
noncomputable def va_h249 : am_H := (80, [(62, va_c134)])
noncomputable def va_c135 : am_C := .inr (.inr (.inr (7, [.inr (.inr (some 71)), .inr (.inr (some 72)), .inl (.ofNat 2, .ofNat 5), .inl (.ofNat 2, .ofNat 5), .inl (.ofNat 0, .ofNat 5), .inr (.inr (some 73)), .inl (.ofNat 2, .ofNat 5), .inl (.ofNat 2, .ofNat 5), .inl (.ofNat 0, .ofNat 5), .inl am_top, .inl am_top, .inl am_top, .inr (.inr (some 74)), .inl (.ofNat 0, .ofNat 160), .inl (.ofNat 70, .ofNat 70), .inl (.ofNat 0, .ofNat 160), .inl (.ofNat 0, .ofNat 3), .inl am_top, .inl (.ofNat 0, .ofNat 0), .inl am_top, .inr (.inr (some 75)), .inr (.inr (some 76)), .inr (.inr (some 77)), .inr (.inr (some 78)), .inr (.inr (some 79)), .inr (.inr (some 80)), .inr (.inr (some 81)), .inl (.negSucc 0, .ofNat 6), .inr (.inr (some 82)), .inr (.inr (some 83)), .inr (.inr (some 84)), .inr (.inr (some 85)), .inr (.inr (some 86)), .inl am_top, .inr (.inr (some 87))])))
noncomputable def va_h250 : am_H := (80, [(62, va_c135)])
noncomputable def va_c136 : am_C := .inr (.inr (.inr (7, [.inr (.inr (some 71)), .inr (.inr (some 72)), .inl (.ofNat 2, .ofNat 5), .inl (.ofNat 2, .ofNat 5), .inl (.ofNat 0, .ofNat 5), .inr (.inr (some 73)), .inl (.ofNat 2, .ofNat 5), .inl (.ofNat 2, .ofNat 5), .inl (.ofNat 0, .ofNat 5), .inl am_top, .inl am_top, .inl am_top, .inr (.inr (some 74)), .inl (.ofNat 0, .ofNat 160), .inl (.ofNat 71, .ofNat 71), .inl (.ofNat 0, .ofNat 160), .inl (.ofNat 0, .ofNat 3), .inl am_top, .inl (.ofNat 0, .ofNat 0), .inl am_top, .inr (.inr (some 75)), .inr (.inr (some 76)), .inr (.inr (some 77)), .inr (.inr (some 78)), .inr (.inr (some 79)), .inr (.inr (some 80)), .inr (.inr (some 81)), .inl (.negSucc 0, .ofNat 6), .inr (.inr (some 82)), .inr (.inr (some 83)), .inr (.inr (some 84)), .inr (.inr (some 85)), .inr (.inr (some 86)), .inl am_top, .inr (.inr (some 87))])))
noncomputable def va_h251 : am_H := (80, [(62, va_c136)])
noncomputable def va_c137 : am_C := .inr (.inr (.inr (7, [.inr (.inr (some 71)), .inr (.inr (some 72)), .inl (.ofNat 2, .ofNat 5), .inl (.ofNat 2, .ofNat 5), .inl (.ofNat 0, .ofNat 5), .inr (.inr (some 73)), .inl (.ofNat 2, .ofNat 5), .inl (.ofNat 2, .ofNat 5), .inl (.ofNat 0, .ofNat 5), .inl am_top, .inl am_top, .inl am_top, .inr (.inr (some 74)), .inl (.ofNat 0, .ofNat 160), .inl (.ofNat 72, .ofNat 72), .inl (.ofNat 0, .ofNat 160), .inl (.ofNat 0, .ofNat 3), .inl am_top, .inl (.ofNat 0, .ofNat 0), .inl am_top, .inr (.inr (some 75)), .inr (.inr (some 76)), .inr (.inr (some 77)), .inr (.inr (some 78)), .inr (.inr (some 79)), .inr (.inr (some 80)), .inr (.inr (some 81)), .inl (.negSucc 0, .ofNat 6), .inr (.inr (some 82)), .inr (.inr (some 83)), .inr (.inr (some 84)), .inr (.inr (some 85)), .inr (.inr (some 86)), .inl am_top, .inr (.inr (some 87))])))
noncomputable def va_h252 : am_H := (80, [(62, va_c137)])
noncomputable def va_c138 : am_C := .inr (.inr (.inr (7, [.inr (.inr (some 71)), .inr (.inr (some 72)), .inl (.ofNat 2, .ofNat 5), .inl (.ofNat 2, .ofNat 5), .inl (.ofNat 0, .ofNat 5), .inr (.inr (some 73)), .inl (.ofNat 2, .ofNat 5), .inl (.ofNat 2, .ofNat 5), .inl (.ofNat 0, .ofNat 5), .inl am_top, .inl am_top, .inl am_top, .inr (.inr (some 74)), .inl (.ofNat 0, .ofNat 160), .inl (.ofNat 73, .ofNat 73), .inl (.ofNat 0, .ofNat 160), .inl (.ofNat 0, .ofNat 3), .inl am_top, .inl (.ofNat 0, .ofNat 0), .inl am_top, .inr (.inr (some 75)), .inr (.inr (some 76)), .inr (.inr (some 77)), .inr (.inr (some 78)), .inr (.inr (some 79)), .inr (.inr (some 80)), .inr (.inr (some 81)), .inl (.negSucc 0, .ofNat 6), .inr (.inr (some 82)), .inr (.inr (some 83)), .inr (.inr (some 84)), .inr (.inr (some 85)), .inr (.inr (some 86)), .inl am_top, .inr (.inr (some 87))])))
noncomputable def va_h253 : am_H := (80, [(62, va_c138)])
noncomputable def va_c139 : am_C := .inr (.inr (.inr (7, [.inr (.inr (some 71)), .inr (.inr (some 72)), .inl (.ofNat 2, .ofNat 5), .inl (.ofNat 2, .ofNat 5), .inl (.ofNat 0, .ofNat 5), .inr (.inr (some 73)), .inl (.ofNat 2, .ofNat 5), .inl (.ofNat 2, .ofNat 5), .inl (.ofNat 0, .ofNat 5), .inl am_top, .inl am_top, .inl am_top, .inr (.inr (some 74)), .inl (.ofNat 0, .ofNat 160), .inl (.ofNat 74, .ofNat 74), .inl (.ofNat 0, .ofNat 160), .inl (.ofNat 0, .ofNat 3), .inl am_top, .inl (.ofNat 0, .ofNat 0), .inl am_top, .inr (.inr (some 75)), .inr (.inr (some 76)), .inr (.inr (some 77)), .inr (.inr (some 78)), .inr (.inr (some 79)), .inr (.inr (some 80)), .inr (.inr (some 81)), .inl (.negSucc 0, .ofNat 6), .inr (.inr (some 82)), .inr (.inr (some 83)), .inr (.inr (some 84)), .inr (.inr (some 85)), .inr (.inr (some 86)), .inl am_top, .inr (.inr (some 87))])))
noncomputable def va_h254 : am_H := (80, [(62, va_c139)])
noncomputable def va_c140 : am_C := .inr (.inr (.inr (7, [.inr (.inr (some 71)), .inr (.inr (some 72)), .inl (.ofNat 2, .ofNat 5), .inl (.ofNat 2, .ofNat 5), .inl (.ofNat 0, .ofNat 5), .inr (.inr (some 73)), .inl (.ofNat 2, .ofNat 5), .inl (.ofNat 2, .ofNat 5), .inl (.ofNat 0, .ofNat 5), .inl am_top, .inl am_top, .inl am_top, .inr (.inr (some 74)), .inl (.ofNat 0, .ofNat 160), .inl (.ofNat 75, .ofNat 75), .inl (.ofNat 0, .ofNat 160), .inl (.ofNat 0, .ofNat 3), .inl am_top, .inl (.ofNat 0, .ofNat 0), .inl am_top, .inr (.inr (some 75)), .inr (.inr (some 76)), .inr (.inr (some 77)), .inr (.inr (some 78)), .inr (.inr (some 79)), .inr (.inr (some 80)), .inr (.inr (some 81)), .inl (.negSucc 0, .ofNat 6), .inr (.inr (some 82)), .inr (.inr (some 83)), .inr (.inr (some 84)), .inr (.inr (some 85)), .inr (.inr (some 86)), .inl am_top, .inr (.inr (some 87))])))
noncomputable def va_h255 : am_H := (80, [(62, va_c140)])
noncomputable def va_c141 : am_C := .inr (.inr (.inr (7, [.inr (.inr (some 71)), .inr (.inr (some 72)), .inl (.ofNat 2, .ofNat 5), .inl (.ofNat 2, .ofNat 5), .inl (.ofNat 0, .ofNat 5), .inr (.inr (some 73)), .inl (.ofNat 2, .ofNat 5), .inl (.ofNat 2, .ofNat 5), .inl (.ofNat 0, .ofNat 5), .inl am_top, .inl am_top, .inl am_top, .inr (.inr (some 74)), .inl (.ofNat 0, .ofNat 160), .inl (.ofNat 76, .ofNat 76), .inl (.ofNat 0, .ofNat 160), .inl (.ofNat 0, .ofNat 3), .inl am_top, .inl (.ofNat 0, .ofNat 0), .inl am_top, .inr (.inr (some 75)), .inr (.inr (some 76)), .inr (.inr (some 77)), .inr (.inr (some 78)), .inr (.inr (some 79)), .inr (.inr (some 80)), .inr (.inr (some 81)), .inl (.negSucc 0, .ofNat 6), .inr (.inr (some 82)), .inr (.inr (some 83)), .inr (.inr (some 84)), .inr (.inr (some 85)), .inr (.inr (some 86)), .inl am_top, .inr (.inr (some 87))])))
noncomputable def va_h256 : am_H := (80, [(62, va_c141)])
noncomputable def va_c142 : am_C := .inr (.inr (.inr (7, [.inr (.inr (some 71)), .inr (.inr (some 72)), .inl (.ofNat 2, .ofNat 5), .inl (.ofNat 2, .ofNat 5), .inl (.ofNat 0, .ofNat 5), .inr (.inr (some 73)), .inl (.ofNat 2, .ofNat 5), .inl (.ofNat 2, .ofNat 5), .inl (.ofNat 0, .ofNat 5), .inl am_top, .inl am_top, .inl am_top, .inr (.inr (some 74)), .inl (.ofNat 0, .ofNat 160), .inl (.ofNat 77, .ofNat 77), .inl (.ofNat 0, .ofNat 160), .inl (.ofNat 0, .ofNat 3), .inl am_top, .inl (.ofNat 0, .ofNat 0), .inl am_top, .inr (.inr (some 75)), .inr (.inr (some 76)), .inr (.inr (some 77)), .inr (.inr (some 78)), .inr (.inr (some 79)), .inr (.inr (some 80)), .inr (.inr (some 81)), .inl (.negSucc 0, .ofNat 6), .inr (.inr (some 82)), .inr (.inr (some 83)), .inr (.inr (some 84)), .inr (.inr (some 85)), .inr (.inr (some 86)), .inl am_top, .inr (.inr (some 87))])))
noncomputable def va_h257 : am_H := (80, [(62, va_c142)])
noncomputable def va_c143 : am_C := .inr (.inr (.inr (7, [.inr (.inr (some 71)), .inr (.inr (some 72)), .inl (.ofNat 2, .ofNat 5), .inl (.ofNat 2, .ofNat 5), .inl (.ofNat 0, .ofNat 5), .inr (.inr (some 73)), .inl (.ofNat 2, .ofNat 5), .inl (.ofNat 2, .ofNat 5), .inl (.ofNat 0, .ofNat 5), .inl am_top, .inl am_top, .inl am_top, .inr (.inr (some 74)), .inl (.ofNat 0, .ofNat 160), .inl (.ofNat 78, .ofNat 78), .inl (.ofNat 0, .ofNat 160), .inl (.ofNat 0, .ofNat 3), .inl am_top, .inl (.ofNat 0, .ofNat 0), .inl am_top, .inr (.inr (some 75)), .inr (.inr (some 76)), .inr (.inr (some 77)), .inr (.inr (some 78)), .inr (.inr (some 79)), .inr (.inr (some 80)), .inr (.inr (some 81)), .inl (.negSucc 0, .ofNat 6), .inr (.inr (some 82)), .inr (.inr (some 83)), .inr (.inr (some 84)), .inr (.inr (some 85)), .inr (.inr (some 86)), .inl am_top, .inr (.inr (some 87))])))
noncomputable def va_h258 : am_H := (80, [(62, va_c143)])
noncomputable def va_c144 : am_C := .inr (.inr (.inr (7, [.inr (.inr (some 71)), .inr (.inr (some 72)), .inl (.ofNat 2, .ofNat 5), .inl (.ofNat 2, .ofNat 5), .inl (.ofNat 0, .ofNat 5), .inr (.inr (some 73)), .inl (.ofNat 2, .ofNat 5), .inl (.ofNat 2, .ofNat 5), .inl (.ofNat 0, .ofNat 5), .inl am_top, .inl am_top, .inl am_top, .inr (.inr (some 74)), .inl (.ofNat 0, .ofNat 160), .inl (.ofNat 79, .ofNat 79), .inl (.ofNat 0, .ofNat 160), .inl (.ofNat 0, .ofNat 3), .inl am_top, .inl (.ofNat 0, .ofNat 0), .inl am_top, .inr (.inr (some 75)), .inr (.inr (some 76)), .inr (.inr (some 77)), .inr (.inr (some 78)), .inr (.inr (some 79)), .inr (.inr (some 80)), .inr (.inr (some 81)), .inl (.negSucc 0, .ofNat 6), .inr (.inr (some 82)), .inr (.inr (some 83)), .inr (.inr (some 84)), .inr (.inr (some 85)), .inr (.inr (some 86)), .inl am_top, .inr (.inr (some 87))])))
noncomputable def va_h259 : am_H := (80, [(62, va_c144)])
noncomputable def va_c145 : am_C := .inr (.inr (.inr (7, [.inr (.inr (some 71)), .inr (.inr (some 72)), .inl (.ofNat 2, .ofNat 5), .inl (.ofNat 2, .ofNat 5), .inl (.ofNat 0, .ofNat 5), .inr (.inr (some 73)), .inl (.ofNat 2, .ofNat 5), .inl (.ofNat 2, .ofNat 5), .inl (.ofNat 0, .ofNat 5), .inl am_top, .inl am_top, .inl am_top, .inr (.inr (some 74)), .inl (.ofNat 0, .ofNat 160), .inl (.ofNat 80, .ofNat 80), .inl (.ofNat 0, .ofNat 160), .inl (.ofNat 0, .ofNat 3), .inl am_top, .inl (.ofNat 0, .ofNat 0), .inl am_top, .inr (.inr (some 75)), .inr (.inr (some 76)), .inr (.inr (some 77)), .inr (.inr (some 78)), .inr (.inr (some 79)), .inr (.inr (some 80)), .inr (.inr (some 81)), .inl (.negSucc 0, .ofNat 6), .inr (.inr (some 82)), .inr (.inr (some 83)), .inr (.inr (some 84)), .inr (.inr (some 85)), .inr (.inr (some 86)), .inl am_top, .inr (.inr (some 87))])))
noncomputable def va_h260 : am_H := (80, [(62, va_c145)])
noncomputable def va_c146 : am_C := .inr (.inr (.inr (7, [.inr (.inr (some 71)), .inr (.inr (some 72)), .inl (.ofNat 2, .ofNat 5), .inl (.ofNat 2, .ofNat 5), .inl (.ofNat 0, .ofNat 5), .inr (.inr (some 73)), .inl (.ofNat 2, .ofNat 5), .inl (.ofNat 2, .ofNat 5), .inl (.ofNat 0, .ofNat 5), .inl am_top, .inl am_top, .inl am_top, .inr (.inr (some 74)), .inl (.ofNat 0, .ofNat 160), .inl (.ofNat 81, .ofNat 81), .inl (.ofNat 0, .ofNat 160), .inl (.ofNat 0, .ofNat 3), .inl am_top, .inl (.ofNat 0, .ofNat 0), .inl am_top, .inr (.inr (some 75)), .inr (.inr (some 76)), .inr (.inr (some 77)), .inr (.inr (some 78)), .inr (.inr (some 79)), .inr (.inr (some 80)), .inr (.inr (some 81)), .inl (.negSucc 0, .ofNat 6), .inr (.inr (some 82)), .inr (.inr (some 83)), .inr (.inr (some 84)), .inr (.inr (some 85)), .inr (.inr (some 86)), .inl am_top, .inr (.inr (some 87))])))
noncomputable def va_h261 : am_H := (80, [(62, va_c146)])
noncomputable def va_c147 : am_C := .inr (.inr (.inr (7, [.inr (.inr (some 71)), .inr (.inr (some 72)), .inl (.ofNat 2, .ofNat 5), .inl (.ofNat 2, .ofNat 5), .inl (.ofNat 0, .ofNat 5), .inr (.inr (some 73)), .inl (.ofNat 2, .ofNat 5), .inl (.ofNat 2, .ofNat 5), .inl (.ofNat 0, .ofNat 5), .inl am_top, .inl am_top, .inl am_top, .inr (.inr (some 74)), .inl (.ofNat 0, .ofNat 160), .inl (.ofNat 82, .ofNat 82), .inl (.ofNat 0, .ofNat 160), .inl (.ofNat 0, .ofNat 3), .inl am_top, .inl (.ofNat 0, .ofNat 0), .inl am_top, .inr (.inr (some 75)), .inr (.inr (some 76)), .inr (.inr (some 77)), .inr (.inr (some 78)), .inr (.inr (some 79)), .inr (.inr (some 80)), .inr (.inr (some 81)), .inl (.negSucc 0, .ofNat 6), .inr (.inr (some 82)), .inr (.inr (some 83)), .inr (.inr (some 84)), .inr (.inr (some 85)), .inr (.inr (some 86)), .inl am_top, .inr (.inr (some 87))])))
noncomputable def va_h262 : am_H := (80, [(62, va_c147)])
noncomputable def va_c148 : am_C := .inr (.inr (.inr (7, [.inr (.inr (some 71)), .inr (.inr (some 72)), .inl (.ofNat 2, .ofNat 5), .inl (.ofNat 2, .ofNat 5), .inl (.ofNat 0, .ofNat 5), .inr (.inr (some 73)), .inl (.ofNat 2, .ofNat 5), .inl (.ofNat 2, .ofNat 5), .inl (.ofNat 0, .ofNat 5), .inl am_top, .inl am_top, .inl am_top, .inr (.inr (some 74)), .inl (.ofNat 0, .ofNat 160), .inl (.ofNat 83, .ofNat 83), .inl (.ofNat 0, .ofNat 160), .inl (.ofNat 0, .ofNat 3), .inl am_top, .inl (.ofNat 0, .ofNat 0), .inl am_top, .inr (.inr (some 75)), .inr (.inr (some 76)), .inr (.inr (some 77)), .inr (.inr (some 78)), .inr (.inr (some 79)), .inr (.inr (some 80)), .inr (.inr (some 81)), .inl (.negSucc 0, .ofNat 6), .inr (.inr (some 82)), .inr (.inr (some 83)), .inr (.inr (some 84)), .inr (.inr (some 85)), .inr (.inr (some 86)), .inl am_top, .inr (.inr (some 87))])))
noncomputable def va_h263 : am_H := (80, [(62, va_c148)])
noncomputable def va_c149 : am_C := .inr (.inr (.inr (7, [.inr (.inr (some 71)), .inr (.inr (some 72)), .inl (.ofNat 2, .ofNat 5), .inl (.ofNat 2, .ofNat 5), .inl (.ofNat 0, .ofNat 5), .inr (.inr (some 73)), .inl (.ofNat 2, .ofNat 5), .inl (.ofNat 2, .ofNat 5), .inl (.ofNat 0, .ofNat 5), .inl am_top, .inl am_top, .inl am_top, .inr (.inr (some 74)), .inl (.ofNat 0, .ofNat 160), .inl (.ofNat 84, .ofNat 84), .inl (.ofNat 0, .ofNat 160), .inl (.ofNat 0, .ofNat 3), .inl am_top, .inl (.ofNat 0, .ofNat 0), .inl am_top, .inr (.inr (some 75)), .inr (.inr (some 76)), .inr (.inr (some 77)), .inr (.inr (some 78)), .inr (.inr (some 79)), .inr (.inr (some 80)), .inr (.inr (some 81)), .inl (.negSucc 0, .ofNat 6), .inr (.inr (some 82)), .inr (.inr (some 83)), .inr (.inr (some 84)), .inr (.inr (some 85)), .inr (.inr (some 86)), .inl am_top, .inr (.inr (some 87))])))
noncomputable def va_h264 : am_H := (80, [(62, va_c149)])
noncomputable def va_c150 : am_C := .inr (.inr (.inr (7, [.inr (.inr (some 71)), .inr (.inr (some 72)), .inl (.ofNat 2, .ofNat 5), .inl (.ofNat 2, .ofNat 5), .inl (.ofNat 0, .ofNat 5), .inr (.inr (some 73)), .inl (.ofNat 2, .ofNat 5), .inl (.ofNat 2, .ofNat 5), .inl (.ofNat 0, .ofNat 5), .inl am_top, .inl am_top, .inl am_top, .inr (.inr (some 74)), .inl (.ofNat 0, .ofNat 160), .inl (.ofNat 85, .ofNat 85), .inl (.ofNat 0, .ofNat 160), .inl (.ofNat 0, .ofNat 3), .inl am_top, .inl (.ofNat 0, .ofNat 0), .inl am_top, .inr (.inr (some 75)), .inr (.inr (some 76)), .inr (.inr (some 77)), .inr (.inr (some 78)), .inr (.inr (some 79)), .inr (.inr (some 80)), .inr (.inr (some 81)), .inl (.negSucc 0, .ofNat 6), .inr (.inr (some 82)), .inr (.inr (some 83)), .inr (.inr (some 84)), .inr (.inr (some 85)), .inr (.inr (some 86)), .inl am_top, .inr (.inr (some 87))])))
noncomputable def va_h265 : am_H := (80, [(62, va_c150)])
noncomputable def va_c151 : am_C := .inr (.inr (.inr (7, [.inr (.inr (some 71)), .inr (.inr (some 72)), .inl (.ofNat 2, .ofNat 5), .inl (.ofNat 2, .ofNat 5), .inl (.ofNat 0, .ofNat 5), .inr (.inr (some 73)), .inl (.ofNat 2, .ofNat 5), .inl (.ofNat 2, .ofNat 5), .inl (.ofNat 0, .ofNat 5), .inl am_top, .inl am_top, .inl am_top, .inr (.inr (some 74)), .inl (.ofNat 0, .ofNat 160), .inl (.ofNat 86, .ofNat 86), .inl (.ofNat 0, .ofNat 160), .inl (.ofNat 0, .ofNat 3), .inl am_top, .inl (.ofNat 0, .ofNat 0), .inl am_top, .inr (.inr (some 75)), .inr (.inr (some 76)), .inr (.inr (some 77)), .inr (.inr (some 78)), .inr (.inr (some 79)), .inr (.inr (some 80)), .inr (.inr (some 81)), .inl (.negSucc 0, .ofNat 6), .inr (.inr (some 82)), .inr (.inr (some 83)), .inr (.inr (some 84)), .inr (.inr (some 85)), .inr (.inr (some 86)), .inl am_top, .inr (.inr (some 87))])))
noncomputable def va_h266 : am_H := (80, [(62, va_c151)])
noncomputable def va_c152 : am_C := .inr (.inr (.inr (7, [.inr (.inr (some 71)), .inr (.inr (some 72)), .inl (.ofNat 2, .ofNat 5), .inl (.ofNat 2, .ofNat 5), .inl (.ofNat 0, .ofNat 5), .inr (.inr (some 73)), .inl (.ofNat 2, .ofNat 5), .inl (.ofNat 2, .ofNat 5), .inl (.ofNat 0, .ofNat 5), .inl am_top, .inl am_top, .inl am_top, .inr (.inr (some 74)), .inl (.ofNat 0, .ofNat 160), .inl (.ofNat 87, .ofNat 87), .inl (.ofNat 0, .ofNat 160), .inl (.ofNat 0, .ofNat 3), .inl am_top, .inl (.ofNat 0, .ofNat 0), .inl am_top, .inr (.inr (some 75)), .inr (.inr (some 76)), .inr (.inr (some 77)), .inr (.inr (some 78)), .inr (.inr (some 79)), .inr (.inr (some 80)), .inr (.inr (some 81)), .inl (.negSucc 0, .ofNat 6), .inr (.inr (some 82)), .inr (.inr (some 83)), .inr (.inr (some 84)), .inr (.inr (some 85)), .inr (.inr (some 86)), .inl am_top, .inr (.inr (some 87))])))
noncomputable def va_h267 : am_H := (80, [(62, va_c152)])
noncomputable def va_c153 : am_C := .inr (.inr (.inr (7, [.inr (.inr (some 71)), .inr (.inr (some 72)), .inl (.ofNat 2, .ofNat 5), .inl (.ofNat 2, .ofNat 5), .inl (.ofNat 0, .ofNat 5), .inr (.inr (some 73)), .inl (.ofNat 2, .ofNat 5), .inl (.ofNat 2, .ofNat 5), .inl (.ofNat 0, .ofNat 5), .inl am_top, .inl am_top, .inl am_top, .inr (.inr (some 74)), .inl (.ofNat 0, .ofNat 160), .inl (.ofNat 88, .ofNat 88), .inl (.ofNat 0, .ofNat 160), .inl (.ofNat 0, .ofNat 3), .inl am_top, .inl (.ofNat 0, .ofNat 0), .inl am_top, .inr (.inr (some 75)), .inr (.inr (some 76)), .inr (.inr (some 77)), .inr (.inr (some 78)), .inr (.inr (some 79)), .inr (.inr (some 80)), .inr (.inr (some 81)), .inl (.negSucc 0, .ofNat 6), .inr (.inr (some 82)), .inr (.inr (some 83)), .inr (.inr (some 84)), .inr (.inr (some 85)), .inr (.inr (some 86)), .inl am_top, .inr (.inr (some 87))])))
noncomputable def va_h268 : am_H := (80, [(62, va_c153)])
noncomputable def va_c154 : am_C := .inr (.inr (.inr (7, [.inr (.inr (some 71)), .inr (.inr (some 72)), .inl (.ofNat 2, .ofNat 5), .inl (.ofNat 2, .ofNat 5), .inl (.ofNat 0, .ofNat 5), .inr (.inr (some 73)), .inl (.ofNat 2, .ofNat 5), .inl (.ofNat 2, .ofNat 5), .inl (.ofNat 0, .ofNat 5), .inl am_top, .inl am_top, .inl am_top, .inr (.inr (some 74)), .inl (.ofNat 0, .ofNat 160), .inl (.ofNat 89, .ofNat 89), .inl (.ofNat 0, .ofNat 160), .inl (.ofNat 0, .ofNat 3), .inl am_top, .inl (.ofNat 0, .ofNat 0), .inl am_top, .inr (.inr (some 75)), .inr (.inr (some 76)), .inr (.inr (some 77)), .inr (.inr (some 78)), .inr (.inr (some 79)), .inr (.inr (some 80)), .inr (.inr (some 81)), .inl (.negSucc 0, .ofNat 6), .inr (.inr (some 82)), .inr (.inr (some 83)), .inr (.inr (some 84)), .inr (.inr (some 85)), .inr (.inr (some 86)), .inl am_top, .inr (.inr (some 87))])))
noncomputable def va_h269 : am_H := (80, [(62, va_c154)])
noncomputable def va_c155 : am_C := .inr (.inr (.inr (7, [.inr (.inr (some 71)), .inr (.inr (some 72)), .inl (.ofNat 2, .ofNat 5), .inl (.ofNat 2, .ofNat 5), .inl (.ofNat 0, .ofNat 5), .inr (.inr (some 73)), .inl (.ofNat 2, .ofNat 5), .inl (.ofNat 2, .ofNat 5), .inl (.ofNat 0, .ofNat 5), .inl am_top, .inl am_top, .inl am_top, .inr (.inr (some 74)), .inl (.ofNat 0, .ofNat 160), .inl (.ofNat 90, .ofNat 90), .inl (.ofNat 0, .ofNat 160), .inl (.ofNat 0, .ofNat 3), .inl am_top, .inl (.ofNat 0, .ofNat 0), .inl am_top, .inr (.inr (some 75)), .inr (.inr (some 76)), .inr (.inr (some 77)), .inr (.inr (some 78)), .inr (.inr (some 79)), .inr (.inr (some 80)), .inr (.inr (some 81)), .inl (.negSucc 0, .ofNat 6), .inr (.inr (some 82)), .inr (.inr (some 83)), .inr (.inr (some 84)), .inr (.inr (some 85)), .inr (.inr (some 86)), .inl am_top, .inr (.inr (some 87))])))
noncomputable def va_h270 : am_H := (80, [(62, va_c155)])
noncomputable def va_c156 : am_C := .inr (.inr (.inr (7, [.inr (.inr (some 71)), .inr (.inr (some 72)), .inl (.ofNat 2, .ofNat 5), .inl (.ofNat 2, .ofNat 5), .inl (.ofNat 0, .ofNat 5), .inr (.inr (some 73)), .inl (.ofNat 2, .ofNat 5), .inl (.ofNat 2, .ofNat 5), .inl (.ofNat 0, .ofNat 5), .inl am_top, .inl am_top, .inl am_top, .inr (.inr (some 74)), .inl (.ofNat 0, .ofNat 160), .inl (.ofNat 91, .ofNat 91), .inl (.ofNat 0, .ofNat 160), .inl (.ofNat 0, .ofNat 3), .inl am_top, .inl (.ofNat 0, .ofNat 0), .inl am_top, .inr (.inr (some 75)), .inr (.inr (some 76)), .inr (.inr (some 77)), .inr (.inr (some 78)), .inr (.inr (some 79)), .inr (.inr (some 80)), .inr (.inr (some 81)), .inl (.negSucc 0, .ofNat 6), .inr (.inr (some 82)), .inr (.inr (some 83)), .inr (.inr (some 84)), .inr (.inr (some 85)), .inr (.inr (some 86)), .inl am_top, .inr (.inr (some 87))])))
noncomputable def va_h271 : am_H := (80, [(62, va_c156)])
noncomputable def va_c157 : am_C := .inr (.inr (.inr (7, [.inr (.inr (some 71)), .inr (.inr (some 72)), .inl (.ofNat 2, .ofNat 5), .inl (.ofNat 2, .ofNat 5), .inl (.ofNat 0, .ofNat 5), .inr (.inr (some 73)), .inl (.ofNat 2, .ofNat 5), .inl (.ofNat 2, .ofNat 5), .inl (.ofNat 0, .ofNat 5), .inl am_top, .inl am_top, .inl am_top, .inr (.inr (some 74)), .inl (.ofNat 0, .ofNat 160), .inl (.ofNat 92, .ofNat 92), .inl (.ofNat 0, .ofNat 160), .inl (.ofNat 0, .ofNat 3), .inl am_top, .inl (.ofNat 0, .ofNat 0), .inl am_top, .inr (.inr (some 75)), .inr (.inr (some 76)), .inr (.inr (some 77)), .inr (.inr (some 78)), .inr (.inr (some 79)), .inr (.inr (some 80)), .inr (.inr (some 81)), .inl (.negSucc 0, .ofNat 6), .inr (.inr (some 82)), .inr (.inr (some 83)), .inr (.inr (some 84)), .inr (.inr (some 85)), .inr (.inr (some 86)), .inl am_top, .inr (.inr (some 87))])))
noncomputable def va_h272 : am_H := (80, [(62, va_c157)])
noncomputable def va_c158 : am_C := .inr (.inr (.inr (7, [.inr (.inr (some 71)), .inr (.inr (some 72)), .inl (.ofNat 2, .ofNat 5), .inl (.ofNat 2, .ofNat 5), .inl (.ofNat 0, .ofNat 5), .inr (.inr (some 73)), .inl (.ofNat 2, .ofNat 5), .inl (.ofNat 2, .ofNat 5), .inl (.ofNat 0, .ofNat 5), .inl am_top, .inl am_top, .inl am_top, .inr (.inr (some 74)), .inl (.ofNat 0, .ofNat 160), .inl (.ofNat 93, .ofNat 93), .inl (.ofNat 0, .ofNat 160), .inl (.ofNat 0, .ofNat 3), .inl am_top, .inl (.ofNat 0, .ofNat 0), .inl am_top, .inr (.inr (some 75)), .inr (.inr (some 76)), .inr (.inr (some 77)), .inr (.inr (some 78)), .inr (.inr (some 79)), .inr (.inr (some 80)), .inr (.inr (some 81)), .inl (.negSucc 0, .ofNat 6), .inr (.inr (some 82)), .inr (.inr (some 83)), .inr (.inr (some 84)), .inr (.inr (some 85)), .inr (.inr (some 86)), .inl am_top, .inr (.inr (some 87))])))
noncomputable def va_h273 : am_H := (80, [(62, va_c158)])
noncomputable def va_c159 : am_C := .inr (.inr (.inr (7, [.inr (.inr (some 71)), .inr (.inr (some 72)), .inl (.ofNat 2, .ofNat 5), .inl (.ofNat 2, .ofNat 5), .inl (.ofNat 0, .ofNat 5), .inr (.inr (some 73)), .inl (.ofNat 2, .ofNat 5), .inl (.ofNat 2, .ofNat 5), .inl (.ofNat 0, .ofNat 5), .inl am_top, .inl am_top, .inl am_top, .inr (.inr (some 74)), .inl (.ofNat 0, .ofNat 160), .inl (.ofNat 94, .ofNat 94), .inl (.ofNat 0, .ofNat 160), .inl (.ofNat 0, .ofNat 3), .inl am_top, .inl (.ofNat 0, .ofNat 0), .inl am_top, .inr (.inr (some 75)), .inr (.inr (some 76)), .inr (.inr (some 77)), .inr (.inr (some 78)), .inr (.inr (some 79)), .inr (.inr (some 80)), .inr (.inr (some 81)), .inl (.negSucc 0, .ofNat 6), .inr (.inr (some 82)), .inr (.inr (some 83)), .inr (.inr (some 84)), .inr (.inr (some 85)), .inr (.inr (some 86)), .inl am_top, .inr (.inr (some 87))])))
noncomputable def va_h274 : am_H := (80, [(62, va_c159)])
noncomputable def va_c160 : am_C := .inr (.inr (.inr (7, [.inr (.inr (some 71)), .inr (.inr (some 72)), .inl (.ofNat 2, .ofNat 5), .inl (.ofNat 2, .ofNat 5), .inl (.ofNat 0, .ofNat 5), .inr (.inr (some 73)), .inl (.ofNat 2, .ofNat 5), .inl (.ofNat 2, .ofNat 5), .inl (.ofNat 0, .ofNat 5), .inl am_top, .inl am_top, .inl am_top, .inr (.inr (some 74)), .inl (.ofNat 0, .ofNat 160), .inl (.ofNat 95, .ofNat 95), .inl (.ofNat 0, .ofNat 160), .inl (.ofNat 0, .ofNat 3), .inl am_top, .inl (.ofNat 0, .ofNat 0), .inl am_top, .inr (.inr (some 75)), .inr (.inr (some 76)), .inr (.inr (some 77)), .inr (.inr (some 78)), .inr (.inr (some 79)), .inr (.inr (some 80)), .inr (.inr (some 81)), .inl (.negSucc 0, .ofNat 6), .inr (.inr (some 82)), .inr (.inr (some 83)), .inr (.inr (some 84)), .inr (.inr (some 85)), .inr (.inr (some 86)), .inl am_top, .inr (.inr (some 87))])))
noncomputable def va_h275 : am_H := (80, [(62, va_c160)])
noncomputable def va_c161 : am_C := .inr (.inr (.inr (7, [.inr (.inr (some 71)), .inr (.inr (some 72)), .inl (.ofNat 2, .ofNat 5), .inl (.ofNat 2, .ofNat 5), .inl (.ofNat 0, .ofNat 5), .inr (.inr (some 73)), .inl (.ofNat 2, .ofNat 5), .inl (.ofNat 2, .ofNat 5), .inl (.ofNat 0, .ofNat 5), .inl am_top, .inl am_top, .inl am_top, .inr (.inr (some 74)), .inl (.ofNat 0, .ofNat 160), .inl (.ofNat 96, .ofNat 96), .inl (.ofNat 0, .ofNat 160), .inl (.ofNat 0, .ofNat 3), .inl am_top, .inl (.ofNat 0, .ofNat 0), .inl am_top, .inr (.inr (some 75)), .inr (.inr (some 76)), .inr (.inr (some 77)), .inr (.inr (some 78)), .inr (.inr (some 79)), .inr (.inr (some 80)), .inr (.inr (some 81)), .inl (.negSucc 0, .ofNat 6), .inr (.inr (some 82)), .inr (.inr (some 83)), .inr (.inr (some 84)), .inr (.inr (some 85)), .inr (.inr (some 86)), .inl am_top, .inr (.inr (some 87))])))
noncomputable def va_h276 : am_H := (80, [(62, va_c161)])
noncomputable def va_c162 : am_C := .inr (.inr (.inr (7, [.inr (.inr (some 71)), .inr (.inr (some 72)), .inl (.ofNat 2, .ofNat 5), .inl (.ofNat 2, .ofNat 5), .inl (.ofNat 0, .ofNat 5), .inr (.inr (some 73)), .inl (.ofNat 2, .ofNat 5), .inl (.ofNat 2, .ofNat 5), .inl (.ofNat 0, .ofNat 5), .inl am_top, .inl am_top, .inl am_top, .inr (.inr (some 74)), .inl (.ofNat 0, .ofNat 160), .inl (.ofNat 97, .ofNat 97), .inl (.ofNat 0, .ofNat 160), .inl (.ofNat 0, .ofNat 3), .inl am_top, .inl (.ofNat 0, .ofNat 0), .inl am_top, .inr (.inr (some 75)), .inr (.inr (some 76)), .inr (.inr (some 77)), .inr (.inr (some 78)), .inr (.inr (some 79)), .inr (.inr (some 80)), .inr (.inr (some 81)), .inl (.negSucc 0, .ofNat 6), .inr (.inr (some 82)), .inr (.inr (some 83)), .inr (.inr (some 84)), .inr (.inr (some 85)), .inr (.inr (some 86)), .inl am_top, .inr (.inr (some 87))])))
noncomputable def va_h277 : am_H := (80, [(62, va_c162)])
noncomputable def va_c163 : am_C := .inr (.inr (.inr (7, [.inr (.inr (some 71)), .inr (.inr (some 72)), .inl (.ofNat 2, .ofNat 5), .inl (.ofNat 2, .ofNat 5), .inl (.ofNat 0, .ofNat 5), .inr (.inr (some 73)), .inl (.ofNat 2, .ofNat 5), .inl (.ofNat 2, .ofNat 5), .inl (.ofNat 0, .ofNat 5), .inl am_top, .inl am_top, .inl am_top, .inr (.inr (some 74)), .inl (.ofNat 0, .ofNat 160), .inl (.ofNat 98, .ofNat 98), .inl (.ofNat 0, .ofNat 160), .inl (.ofNat 0, .ofNat 3), .inl am_top, .inl (.ofNat 0, .ofNat 0), .inl am_top, .inr (.inr (some 75)), .inr (.inr (some 76)), .inr (.inr (some 77)), .inr (.inr (some 78)), .inr (.inr (some 79)), .inr (.inr (some 80)), .inr (.inr (some 81)), .inl (.negSucc 0, .ofNat 6), .inr (.inr (some 82)), .inr (.inr (some 83)), .inr (.inr (some 84)), .inr (.inr (some 85)), .inr (.inr (some 86)), .inl am_top, .inr (.inr (some 87))])))
noncomputable def va_h278 : am_H := (80, [(62, va_c163)])
noncomputable def va_c164 : am_C := .inr (.inr (.inr (7, [.inr (.inr (some 71)), .inr (.inr (some 72)), .inl (.ofNat 2, .ofNat 5), .inl (.ofNat 2, .ofNat 5), .inl (.ofNat 0, .ofNat 5), .inr (.inr (some 73)), .inl (.ofNat 2, .ofNat 5), .inl (.ofNat 2, .ofNat 5), .inl (.ofNat 0, .ofNat 5), .inl am_top, .inl am_top, .inl am_top, .inr (.inr (some 74)), .inl (.ofNat 0, .ofNat 160), .inl (.ofNat 99, .ofNat 99), .inl (.ofNat 0, .ofNat 160), .inl (.ofNat 0, .ofNat 3), .inl am_top, .inl (.ofNat 0, .ofNat 0), .inl am_top, .inr (.inr (some 75)), .inr (.inr (some 76)), .inr (.inr (some 77)), .inr (.inr (some 78)), .inr (.inr (some 79)), .inr (.inr (some 80)), .inr (.inr (some 81)), .inl (.negSucc 0, .ofNat 6), .inr (.inr (some 82)), .inr (.inr (some 83)), .inr (.inr (some 84)), .inr (.inr (some 85)), .inr (.inr (some 86)), .inl am_top, .inr (.inr (some 87))])))
noncomputable def va_h279 : am_H := (80, [(62, va_c164)])
noncomputable def va_c165 : am_C := .inr (.inr (.inr (7, [.inr (.inr (some 71)), .inr (.inr (some 72)), .inl (.ofNat 2, .ofNat 5), .inl (.ofNat 2, .ofNat 5), .inl (.ofNat 0, .ofNat 5), .inr (.inr (some 73)), .inl (.ofNat 2, .ofNat 5), .inl (.ofNat 2, .ofNat 5), .inl (.ofNat 0, .ofNat 5), .inl am_top, .inl am_top, .inl am_top, .inr (.inr (some 74)), .inl (.ofNat 0, .ofNat 160), .inl (.ofNat 100, .ofNat 100), .inl (.ofNat 0, .ofNat 160), .inl (.ofNat 0, .ofNat 3), .inl am_top, .inl (.ofNat 0, .ofNat 0), .inl am_top, .inr (.inr (some 75)), .inr (.inr (some 76)), .inr (.inr (some 77)), .inr (.inr (some 78)), .inr (.inr (some 79)), .inr (.inr (some 80)), .inr (.inr (some 81)), .inl (.negSucc 0, .ofNat 6), .inr (.inr (some 82)), .inr (.inr (some 83)), .inr (.inr (some 84)), .inr (.inr (some 85)), .inr (.inr (some 86)), .inl am_top, .inr (.inr (some 87))])))
noncomputable def va_h280 : am_H := (80, [(62, va_c165)])
noncomputable def va_c166 : am_C := .inr (.inr (.inr (7, [.inr (.inr (some 71)), .inr (.inr (some 72)), .inl (.ofNat 2, .ofNat 5), .inl (.ofNat 2, .ofNat 5), .inl (.ofNat 0, .ofNat 5), .inr (.inr (some 73)), .inl (.ofNat 2, .ofNat 5), .inl (.ofNat 2, .ofNat 5), .inl (.ofNat 0, .ofNat 5), .inl am_top, .inl am_top, .inl am_top, .inr (.inr (some 74)), .inl (.ofNat 0, .ofNat 160), .inl (.ofNat 101, .ofNat 101), .inl (.ofNat 0, .ofNat 160), .inl (.ofNat 0, .ofNat 3), .inl am_top, .inl (.ofNat 0, .ofNat 0), .inl am_top, .inr (.inr (some 75)), .inr (.inr (some 76)), .inr (.inr (some 77)), .inr (.inr (some 78)), .inr (.inr (some 79)), .inr (.inr (some 80)), .inr (.inr (some 81)), .inl (.negSucc 0, .ofNat 6), .inr (.inr (some 82)), .inr (.inr (some 83)), .inr (.inr (some 84)), .inr (.inr (some 85)), .inr (.inr (some 86)), .inl am_top, .inr (.inr (some 87))])))
noncomputable def va_h281 : am_H := (80, [(62, va_c166)])
noncomputable def va_c167 : am_C := .inr (.inr (.inr (7, [.inr (.inr (some 71)), .inr (.inr (some 72)), .inl (.ofNat 2, .ofNat 5), .inl (.ofNat 2, .ofNat 5), .inl (.ofNat 0, .ofNat 5), .inr (.inr (some 73)), .inl (.ofNat 2, .ofNat 5), .inl (.ofNat 2, .ofNat 5), .inl (.ofNat 0, .ofNat 5), .inl am_top, .inl am_top, .inl am_top, .inr (.inr (some 74)), .inl (.ofNat 0, .ofNat 160), .inl (.ofNat 102, .ofNat 102), .inl (.ofNat 0, .ofNat 160), .inl (.ofNat 0, .ofNat 3), .inl am_top, .inl (.ofNat 0, .ofNat 0), .inl am_top, .inr (.inr (some 75)), .inr (.inr (some 76)), .inr (.inr (some 77)), .inr (.inr (some 78)), .inr (.inr (some 79)), .inr (.inr (some 80)), .inr (.inr (some 81)), .inl (.negSucc 0, .ofNat 6), .inr (.inr (some 82)), .inr (.inr (some 83)), .inr (.inr (some 84)), .inr (.inr (some 85)), .inr (.inr (some 86)), .inl am_top, .inr (.inr (some 87))])))
noncomputable def va_h282 : am_H := (80, [(62, va_c167)])
noncomputable def va_c168 : am_C := .inr (.inr (.inr (7, [.inr (.inr (some 71)), .inr (.inr (some 72)), .inl (.ofNat 2, .ofNat 5), .inl (.ofNat 2, .ofNat 5), .inl (.ofNat 0, .ofNat 5), .inr (.inr (some 73)), .inl (.ofNat 2, .ofNat 5), .inl (.ofNat 2, .ofNat 5), .inl (.ofNat 0, .ofNat 5), .inl am_top, .inl am_top, .inl am_top, .inr (.inr (some 74)), .inl (.ofNat 0, .ofNat 160), .inl (.ofNat 103, .ofNat 103), .inl (.ofNat 0, .ofNat 160), .inl (.ofNat 0, .ofNat 3), .inl am_top, .inl (.ofNat 0, .ofNat 0), .inl am_top, .inr (.inr (some 75)), .inr (.inr (some 76)), .inr (.inr (some 77)), .inr (.inr (some 78)), .inr (.inr (some 79)), .inr (.inr (some 80)), .inr (.inr (some 81)), .inl (.negSucc 0, .ofNat 6), .inr (.inr (some 82)), .inr (.inr (some 83)), .inr (.inr (some 84)), .inr (.inr (some 85)), .inr (.inr (some 86)), .inl am_top, .inr (.inr (some 87))])))
noncomputable def va_h283 : am_H := (80, [(62, va_c168)])
noncomputable def va_c169 : am_C := .inr (.inr (.inr (7, [.inr (.inr (some 71)), .inr (.inr (some 72)), .inl (.ofNat 2, .ofNat 5), .inl (.ofNat 2, .ofNat 5), .inl (.ofNat 0, .ofNat 5), .inr (.inr (some 73)), .inl (.ofNat 2, .ofNat 5), .inl (.ofNat 2, .ofNat 5), .inl (.ofNat 0, .ofNat 5), .inl am_top, .inl am_top, .inl am_top, .inr (.inr (some 74)), .inl (.ofNat 0, .ofNat 160), .inl (.ofNat 104, .ofNat 104), .inl (.ofNat 0, .ofNat 160), .inl (.ofNat 0, .ofNat 3), .inl am_top, .inl (.ofNat 0, .ofNat 0), .inl am_top, .inr (.inr (some 75)), .inr (.inr (some 76)), .inr (.inr (some 77)), .inr (.inr (some 78)), .inr (.inr (some 79)), .inr (.inr (some 80)), .inr (.inr (some 81)), .inl (.negSucc 0, .ofNat 6), .inr (.inr (some 82)), .inr (.inr (some 83)), .inr (.inr (some 84)), .inr (.inr (some 85)), .inr (.inr (some 86)), .inl am_top, .inr (.inr (some 87))])))
noncomputable def va_h284 : am_H := (80, [(62, va_c169)])
noncomputable def va_c170 : am_C := .inr (.inr (.inr (7, [.inr (.inr (some 71)), .inr (.inr (some 72)), .inl (.ofNat 2, .ofNat 5), .inl (.ofNat 2, .ofNat 5), .inl (.ofNat 0, .ofNat 5), .inr (.inr (some 73)), .inl (.ofNat 2, .ofNat 5), .inl (.ofNat 2, .ofNat 5), .inl (.ofNat 0, .ofNat 5), .inl am_top, .inl am_top, .inl am_top, .inr (.inr (some 74)), .inl (.ofNat 0, .ofNat 160), .inl (.ofNat 105, .ofNat 105), .inl (.ofNat 0, .ofNat 160), .inl (.ofNat 0, .ofNat 3), .inl am_top, .inl (.ofNat 0, .ofNat 0), .inl am_top, .inr (.inr (some 75)), .inr (.inr (some 76)), .inr (.inr (some 77)), .inr (.inr (some 78)), .inr (.inr (some 79)), .inr (.inr (some 80)), .inr (.inr (some 81)), .inl (.negSucc 0, .ofNat 6), .inr (.inr (some 82)), .inr (.inr (some 83)), .inr (.inr (some 84)), .inr (.inr (some 85)), .inr (.inr (some 86)), .inl am_top, .inr (.inr (some 87))])))
noncomputable def va_h285 : am_H := (80, [(62, va_c170)])
noncomputable def va_c171 : am_C := .inr (.inr (.inr (7, [.inr (.inr (some 71)), .inr (.inr (some 72)), .inl (.ofNat 2, .ofNat 5), .inl (.ofNat 2, .ofNat 5), .inl (.ofNat 0, .ofNat 5), .inr (.inr (some 73)), .inl (.ofNat 2, .ofNat 5), .inl (.ofNat 2, .ofNat 5), .inl (.ofNat 0, .ofNat 5), .inl am_top, .inl am_top, .inl am_top, .inr (.inr (some 74)), .inl (.ofNat 0, .ofNat 160), .inl (.ofNat 106, .ofNat 106), .inl (.ofNat 0, .ofNat 160), .inl (.ofNat 0, .ofNat 3), .inl am_top, .inl (.ofNat 0, .ofNat 0), .inl am_top, .inr (.inr (some 75)), .inr (.inr (some 76)), .inr (.inr (some 77)), .inr (.inr (some 78)), .inr (.inr (some 79)), .inr (.inr (some 80)), .inr (.inr (some 81)), .inl (.negSucc 0, .ofNat 6), .inr (.inr (some 82)), .inr (.inr (some 83)), .inr (.inr (some 84)), .inr (.inr (some 85)), .inr (.inr (some 86)), .inl am_top, .inr (.inr (some 87))])))
noncomputable def va_h286 : am_H := (80, [(62, va_c171)])
noncomputable def va_c172 : am_C := .inr (.inr (.inr (7, [.inr (.inr (some 71)), .inr (.inr (some 72)), .inl (.ofNat 2, .ofNat 5), .inl (.ofNat 2, .ofNat 5), .inl (.ofNat 0, .ofNat 5), .inr (.inr (some 73)), .inl (.ofNat 2, .ofNat 5), .inl (.ofNat 2, .ofNat 5), .inl (.ofNat 0, .ofNat 5), .inl am_top, .inl am_top, .inl am_top, .inr (.inr (some 74)), .inl (.ofNat 0, .ofNat 160), .inl (.ofNat 107, .ofNat 107), .inl (.ofNat 0, .ofNat 160), .inl (.ofNat 0, .ofNat 3), .inl am_top, .inl (.ofNat 0, .ofNat 0), .inl am_top, .inr (.inr (some 75)), .inr (.inr (some 76)), .inr (.inr (some 77)), .inr (.inr (some 78)), .inr (.inr (some 79)), .inr (.inr (some 80)), .inr (.inr (some 81)), .inl (.negSucc 0, .ofNat 6), .inr (.inr (some 82)), .inr (.inr (some 83)), .inr (.inr (some 84)), .inr (.inr (some 85)), .inr (.inr (some 86)), .inl am_top, .inr (.inr (some 87))])))
noncomputable def va_h287 : am_H := (80, [(62, va_c172)])
noncomputable def va_c173 : am_C := .inr (.inr (.inr (7, [.inr (.inr (some 71)), .inr (.inr (some 72)), .inl (.ofNat 2, .ofNat 5), .inl (.ofNat 2, .ofNat 5), .inl (.ofNat 0, .ofNat 5), .inr (.inr (some 73)), .inl (.ofNat 2, .ofNat 5), .inl (.ofNat 2, .ofNat 5), .inl (.ofNat 0, .ofNat 5), .inl am_top, .inl am_top, .inl am_top, .inr (.inr (some 74)), .inl (.ofNat 0, .ofNat 160), .inl (.ofNat 108, .ofNat 108), .inl (.ofNat 0, .ofNat 160), .inl (.ofNat 0, .ofNat 3), .inl am_top, .inl (.ofNat 0, .ofNat 0), .inl am_top, .inr (.inr (some 75)), .inr (.inr (some 76)), .inr (.inr (some 77)), .inr (.inr (some 78)), .inr (.inr (some 79)), .inr (.inr (some 80)), .inr (.inr (some 81)), .inl (.negSucc 0, .ofNat 6), .inr (.inr (some 82)), .inr (.inr (some 83)), .inr (.inr (some 84)), .inr (.inr (some 85)), .inr (.inr (some 86)), .inl am_top, .inr (.inr (some 87))])))
noncomputable def va_h288 : am_H := (80, [(62, va_c173)])
noncomputable def va_c174 : am_C := .inr (.inr (.inr (7, [.inr (.inr (some 71)), .inr (.inr (some 72)), .inl (.ofNat 2, .ofNat 5), .inl (.ofNat 2, .ofNat 5), .inl (.ofNat 0, .ofNat 5), .inr (.inr (some 73)), .inl (.ofNat 2, .ofNat 5), .inl (.ofNat 2, .ofNat 5), .inl (.ofNat 0, .ofNat 5), .inl am_top, .inl am_top, .inl am_top, .inr (.inr (some 74)), .inl (.ofNat 0, .ofNat 160), .inl (.ofNat 109, .ofNat 109), .inl (.ofNat 0, .ofNat 160), .inl (.ofNat 0, .ofNat 3), .inl am_top, .inl (.ofNat 0, .ofNat 0), .inl am_top, .inr (.inr (some 75)), .inr (.inr (some 76)), .inr (.inr (some 77)), .inr (.inr (some 78)), .inr (.inr (some 79)), .inr (.inr (some 80)), .inr (.inr (some 81)), .inl (.negSucc 0, .ofNat 6), .inr (.inr (some 82)), .inr (.inr (some 83)), .inr (.inr (some 84)), .inr (.inr (some 85)), .inr (.inr (some 86)), .inl am_top, .inr (.inr (some 87))])))
noncomputable def va_h289 : am_H := (80, [(62, va_c174)])
noncomputable def va_c175 : am_C := .inr (.inr (.inr (7, [.inr (.inr (some 71)), .inr (.inr (some 72)), .inl (.ofNat 2, .ofNat 5), .inl (.ofNat 2, .ofNat 5), .inl (.ofNat 0, .ofNat 5), .inr (.inr (some 73)), .inl (.ofNat 2, .ofNat 5), .inl (.ofNat 2, .ofNat 5), .inl (.ofNat 0, .ofNat 5), .inl am_top, .inl am_top, .inl am_top, .inr (.inr (some 74)), .inl (.ofNat 0, .ofNat 160), .inl (.ofNat 110, .ofNat 110), .inl (.ofNat 0, .ofNat 160), .inl (.ofNat 0, .ofNat 3), .inl am_top, .inl (.ofNat 0, .ofNat 0), .inl am_top, .inr (.inr (some 75)), .inr (.inr (some 76)), .inr (.inr (some 77)), .inr (.inr (some 78)), .inr (.inr (some 79)), .inr (.inr (some 80)), .inr (.inr (some 81)), .inl (.negSucc 0, .ofNat 6), .inr (.inr (some 82)), .inr (.inr (some 83)), .inr (.inr (some 84)), .inr (.inr (some 85)), .inr (.inr (some 86)), .inl am_top, .inr (.inr (some 87))])))
noncomputable def va_h290 : am_H := (80, [(62, va_c175)])
noncomputable def va_c176 : am_C := .inr (.inr (.inr (7, [.inr (.inr (some 71)), .inr (.inr (some 72)), .inl (.ofNat 2, .ofNat 5), .inl (.ofNat 2, .ofNat 5), .inl (.ofNat 0, .ofNat 5), .inr (.inr (some 73)), .inl (.ofNat 2, .ofNat 5), .inl (.ofNat 2, .ofNat 5), .inl (.ofNat 0, .ofNat 5), .inl am_top, .inl am_top, .inl am_top, .inr (.inr (some 74)), .inl (.ofNat 0, .ofNat 160), .inl (.ofNat 111, .ofNat 111), .inl (.ofNat 0, .ofNat 160), .inl (.ofNat 0, .ofNat 3), .inl am_top, .inl (.ofNat 0, .ofNat 0), .inl am_top, .inr (.inr (some 75)), .inr (.inr (some 76)), .inr (.inr (some 77)), .inr (.inr (some 78)), .inr (.inr (some 79)), .inr (.inr (some 80)), .inr (.inr (some 81)), .inl (.negSucc 0, .ofNat 6), .inr (.inr (some 82)), .inr (.inr (some 83)), .inr (.inr (some 84)), .inr (.inr (some 85)), .inr (.inr (some 86)), .inl am_top, .inr (.inr (some 87))])))
noncomputable def va_h291 : am_H := (80, [(62, va_c176)])
noncomputable def va_c177 : am_C := .inr (.inr (.inr (7, [.inr (.inr (some 71)), .inr (.inr (some 72)), .inl (.ofNat 2, .ofNat 5), .inl (.ofNat 2, .ofNat 5), .inl (.ofNat 0, .ofNat 5), .inr (.inr (some 73)), .inl (.ofNat 2, .ofNat 5), .inl (.ofNat 2, .ofNat 5), .inl (.ofNat 0, .ofNat 5), .inl am_top, .inl am_top, .inl am_top, .inr (.inr (some 74)), .inl (.ofNat 0, .ofNat 160), .inl (.ofNat 112, .ofNat 112), .inl (.ofNat 0, .ofNat 160), .inl (.ofNat 0, .ofNat 3), .inl am_top, .inl (.ofNat 0, .ofNat 0), .inl am_top, .inr (.inr (some 75)), .inr (.inr (some 76)), .inr (.inr (some 77)), .inr (.inr (some 78)), .inr (.inr (some 79)), .inr (.inr (some 80)), .inr (.inr (some 81)), .inl (.negSucc 0, .ofNat 6), .inr (.inr (some 82)), .inr (.inr (some 83)), .inr (.inr (some 84)), .inr (.inr (some 85)), .inr (.inr (some 86)), .inl am_top, .inr (.inr (some 87))])))
noncomputable def va_h292 : am_H := (80, [(62, va_c177)])
noncomputable def va_c178 : am_C := .inr (.inr (.inr (7, [.inr (.inr (some 71)), .inr (.inr (some 72)), .inl (.ofNat 2, .ofNat 5), .inl (.ofNat 2, .ofNat 5), .inl (.ofNat 0, .ofNat 5), .inr (.inr (some 73)), .inl (.ofNat 2, .ofNat 5), .inl (.ofNat 2, .ofNat 5), .inl (.ofNat 0, .ofNat 5), .inl am_top, .inl am_top, .inl am_top, .inr (.inr (some 74)), .inl (.ofNat 0, .ofNat 160), .inl (.ofNat 113, .ofNat 113), .inl (.ofNat 0, .ofNat 160), .inl (.ofNat 0, .ofNat 3), .inl am_top, .inl (.ofNat 0, .ofNat 0), .inl am_top, .inr (.inr (some 75)), .inr (.inr (some 76)), .inr (.inr (some 77)), .inr (.inr (some 78)), .inr (.inr (some 79)), .inr (.inr (some 80)), .inr (.inr (some 81)), .inl (.negSucc 0, .ofNat 6), .inr (.inr (some 82)), .inr (.inr (some 83)), .inr (.inr (some 84)), .inr (.inr (some 85)), .inr (.inr (some 86)), .inl am_top, .inr (.inr (some 87))])))
noncomputable def va_h293 : am_H := (80, [(62, va_c178)])
noncomputable def va_c179 : am_C := .inr (.inr (.inr (7, [.inr (.inr (some 71)), .inr (.inr (some 72)), .inl (.ofNat 2, .ofNat 5), .inl (.ofNat 2, .ofNat 5), .inl (.ofNat 0, .ofNat 5), .inr (.inr (some 73)), .inl (.ofNat 2, .ofNat 5), .inl (.ofNat 2, .ofNat 5), .inl (.ofNat 0, .ofNat 5), .inl am_top, .inl am_top, .inl am_top, .inr (.inr (some 74)), .inl (.ofNat 0, .ofNat 160), .inl (.ofNat 114, .ofNat 114), .inl (.ofNat 0, .ofNat 160), .inl (.ofNat 0, .ofNat 3), .inl am_top, .inl (.ofNat 0, .ofNat 0), .inl am_top, .inr (.inr (some 75)), .inr (.inr (some 76)), .inr (.inr (some 77)), .inr (.inr (some 78)), .inr (.inr (some 79)), .inr (.inr (some 80)), .inr (.inr (some 81)), .inl (.negSucc 0, .ofNat 6), .inr (.inr (some 82)), .inr (.inr (some 83)), .inr (.inr (some 84)), .inr (.inr (some 85)), .inr (.inr (some 86)), .inl am_top, .inr (.inr (some 87))])))
noncomputable def va_h294 : am_H := (80, [(62, va_c179)])
noncomputable def va_c180 : am_C := .inr (.inr (.inr (7, [.inr (.inr (some 71)), .inr (.inr (some 72)), .inl (.ofNat 2, .ofNat 5), .inl (.ofNat 2, .ofNat 5), .inl (.ofNat 0, .ofNat 5), .inr (.inr (some 73)), .inl (.ofNat 2, .ofNat 5), .inl (.ofNat 2, .ofNat 5), .inl (.ofNat 0, .ofNat 5), .inl am_top, .inl am_top, .inl am_top, .inr (.inr (some 74)), .inl (.ofNat 0, .ofNat 160), .inl (.ofNat 115, .ofNat 115), .inl (.ofNat 0, .ofNat 160), .inl (.ofNat 0, .ofNat 3), .inl am_top, .inl (.ofNat 0, .ofNat 0), .inl am_top, .inr (.inr (some 75)), .inr (.inr (some 76)), .inr (.inr (some 77)), .inr (.inr (some 78)), .inr (.inr (some 79)), .inr (.inr (some 80)), .inr (.inr (some 81)), .inl (.negSucc 0, .ofNat 6), .inr (.inr (some 82)), .inr (.inr (some 83)), .inr (.inr (some 84)), .inr (.inr (some 85)), .inr (.inr (some 86)), .inl am_top, .inr (.inr (some 87))])))
noncomputable def va_h295 : am_H := (80, [(62, va_c180)])
noncomputable def va_c181 : am_C := .inr (.inr (.inr (7, [.inr (.inr (some 71)), .inr (.inr (some 72)), .inl (.ofNat 2, .ofNat 5), .inl (.ofNat 2, .ofNat 5), .inl (.ofNat 0, .ofNat 5), .inr (.inr (some 73)), .inl (.ofNat 2, .ofNat 5), .inl (.ofNat 2, .ofNat 5), .inl (.ofNat 0, .ofNat 5), .inl am_top, .inl am_top, .inl am_top, .inr (.inr (some 74)), .inl (.ofNat 0, .ofNat 160), .inl (.ofNat 116, .ofNat 116), .inl (.ofNat 0, .ofNat 160), .inl (.ofNat 0, .ofNat 3), .inl am_top, .inl (.ofNat 0, .ofNat 0), .inl am_top, .inr (.inr (some 75)), .inr (.inr (some 76)), .inr (.inr (some 77)), .inr (.inr (some 78)), .inr (.inr (some 79)), .inr (.inr (some 80)), .inr (.inr (some 81)), .inl (.negSucc 0, .ofNat 6), .inr (.inr (some 82)), .inr (.inr (some 83)), .inr (.inr (some 84)), .inr (.inr (some 85)), .inr (.inr (some 86)), .inl am_top, .inr (.inr (some 87))])))
noncomputable def va_h296 : am_H := (80, [(62, va_c181)])
noncomputable def va_c182 : am_C := .inr (.inr (.inr (7, [.inr (.inr (some 71)), .inr (.inr (some 72)), .inl (.ofNat 2, .ofNat 5), .inl (.ofNat 2, .ofNat 5), .inl (.ofNat 0, .ofNat 5), .inr (.inr (some 73)), .inl (.ofNat 2, .ofNat 5), .inl (.ofNat 2, .ofNat 5), .inl (.ofNat 0, .ofNat 5), .inl am_top, .inl am_top, .inl am_top, .inr (.inr (some 74)), .inl (.ofNat 0, .ofNat 160), .inl (.ofNat 117, .ofNat 117), .inl (.ofNat 0, .ofNat 160), .inl (.ofNat 0, .ofNat 3), .inl am_top, .inl (.ofNat 0, .ofNat 0), .inl am_top, .inr (.inr (some 75)), .inr (.inr (some 76)), .inr (.inr (some 77)), .inr (.inr (some 78)), .inr (.inr (some 79)), .inr (.inr (some 80)), .inr (.inr (some 81)), .inl (.negSucc 0, .ofNat 6), .inr (.inr (some 82)), .inr (.inr (some 83)), .inr (.inr (some 84)), .inr (.inr (some 85)), .inr (.inr (some 86)), .inl am_top, .inr (.inr (some 87))])))
noncomputable def va_h297 : am_H := (80, [(62, va_c182)])
noncomputable def va_c183 : am_C := .inr (.inr (.inr (7, [.inr (.inr (some 71)), .inr (.inr (some 72)), .inl (.ofNat 2, .ofNat 5), .inl (.ofNat 2, .ofNat 5), .inl (.ofNat 0, .ofNat 5), .inr (.inr (some 73)), .inl (.ofNat 2, .ofNat 5), .inl (.ofNat 2, .ofNat 5), .inl (.ofNat 0, .ofNat 5), .inl am_top, .inl am_top, .inl am_top, .inr (.inr (some 74)), .inl (.ofNat 0, .ofNat 160), .inl (.ofNat 118, .ofNat 118), .inl (.ofNat 0, .ofNat 160), .inl (.ofNat 0, .ofNat 3), .inl am_top, .inl (.ofNat 0, .ofNat 0), .inl am_top, .inr (.inr (some 75)), .inr (.inr (some 76)), .inr (.inr (some 77)), .inr (.inr (some 78)), .inr (.inr (some 79)), .inr (.inr (some 80)), .inr (.inr (some 81)), .inl (.negSucc 0, .ofNat 6), .inr (.inr (some 82)), .inr (.inr (some 83)), .inr (.inr (some 84)), .inr (.inr (some 85)), .inr (.inr (some 86)), .inl am_top, .inr (.inr (some 87))])))
noncomputable def va_h298 : am_H := (80, [(62, va_c183)])
noncomputable def va_c184 : am_C := .inr (.inr (.inr (7, [.inr (.inr (some 71)), .inr (.inr (some 72)), .inl (.ofNat 2, .ofNat 5), .inl (.ofNat 2, .ofNat 5), .inl (.ofNat 0, .ofNat 5), .inr (.inr (some 73)), .inl (.ofNat 2, .ofNat 5), .inl (.ofNat 2, .ofNat 5), .inl (.ofNat 0, .ofNat 5), .inl am_top, .inl am_top, .inl am_top, .inr (.inr (some 74)), .inl (.ofNat 0, .ofNat 160), .inl (.ofNat 119, .ofNat 119), .inl (.ofNat 0, .ofNat 160), .inl (.ofNat 0, .ofNat 3), .inl am_top, .inl (.ofNat 0, .ofNat 0), .inl am_top, .inr (.inr (some 75)), .inr (.inr (some 76)), .inr (.inr (some 77)), .inr (.inr (some 78)), .inr (.inr (some 79)), .inr (.inr (some 80)), .inr (.inr (some 81)), .inl (.negSucc 0, .ofNat 6), .inr (.inr (some 82)), .inr (.inr (some 83)), .inr (.inr (some 84)), .inr (.inr (some 85)), .inr (.inr (some 86)), .inl am_top, .inr (.inr (some 87))])))
noncomputable def va_h299 : am_H := (80, [(62, va_c184)])
noncomputable def va_c185 : am_C := .inr (.inr (.inr (7, [.inr (.inr (some 71)), .inr (.inr (some 72)), .inl (.ofNat 2, .ofNat 5), .inl (.ofNat 2, .ofNat 5), .inl (.ofNat 0, .ofNat 5), .inr (.inr (some 73)), .inl (.ofNat 2, .ofNat 5), .inl (.ofNat 2, .ofNat 5), .inl (.ofNat 0, .ofNat 5), .inl am_top, .inl am_top, .inl am_top, .inr (.inr (some 74)), .inl (.ofNat 0, .ofNat 160), .inl (.ofNat 120, .ofNat 120), .inl (.ofNat 0, .ofNat 160), .inl (.ofNat 0, .ofNat 3), .inl am_top, .inl (.ofNat 0, .ofNat 0), .inl am_top, .inr (.inr (some 75)), .inr (.inr (some 76)), .inr (.inr (some 77)), .inr (.inr (some 78)), .inr (.inr (some 79)), .inr (.inr (some 80)), .inr (.inr (some 81)), .inl (.negSucc 0, .ofNat 6), .inr (.inr (some 82)), .inr (.inr (some 83)), .inr (.inr (some 84)), .inr (.inr (some 85)), .inr (.inr (some 86)), .inl am_top, .inr (.inr (some 87))])))
noncomputable def va_h300 : am_H := (80, [(62, va_c185)])
noncomputable def va_c186 : am_C := .inr (.inr (.inr (7, [.inr (.inr (some 71)), .inr (.inr (some 72)), .inl (.ofNat 2, .ofNat 5), .inl (.ofNat 2, .ofNat 5), .inl (.ofNat 0, .ofNat 5), .inr (.inr (some 73)), .inl (.ofNat 2, .ofNat 5), .inl (.ofNat 2, .ofNat 5), .inl (.ofNat 0, .ofNat 5), .inl am_top, .inl am_top, .inl am_top, .inr (.inr (some 74)), .inl (.ofNat 0, .ofNat 160), .inl (.ofNat 121, .ofNat 121), .inl (.ofNat 0, .ofNat 160), .inl (.ofNat 0, .ofNat 3), .inl am_top, .inl (.ofNat 0, .ofNat 0), .inl am_top, .inr (.inr (some 75)), .inr (.inr (some 76)), .inr (.inr (some 77)), .inr (.inr (some 78)), .inr (.inr (some 79)), .inr (.inr (some 80)), .inr (.inr (some 81)), .inl (.negSucc 0, .ofNat 6), .inr (.inr (some 82)), .inr (.inr (some 83)), .inr (.inr (some 84)), .inr (.inr (some 85)), .inr (.inr (some 86)), .inl am_top, .inr (.inr (some 87))])))
noncomputable def va_h301 : am_H := (80, [(62, va_c186)])
noncomputable def va_c187 : am_C := .inr (.inr (.inr (7, [.inr (.inr (some 71)), .inr (.inr (some 72)), .inl (.ofNat 2, .ofNat 5), .inl (.ofNat 2, .ofNat 5), .inl (.ofNat 0, .ofNat 5), .inr (.inr (some 73)), .inl (.ofNat 2, .ofNat 5), .inl (.ofNat 2, .ofNat 5), .inl (.ofNat 0, .ofNat 5), .inl am_top, .inl am_top, .inl am_top, .inr (.inr (some 74)), .inl (.ofNat 0, .ofNat 160), .inl (.ofNat 122, .ofNat 122), .inl (.ofNat 0, .ofNat 160), .inl (.ofNat 0, .ofNat 3), .inl am_top, .inl (.ofNat 0, .ofNat 0), .inl am_top, .inr (.inr (some 75)), .inr (.inr (some 76)), .inr (.inr (some 77)), .inr (.inr (some 78)), .inr (.inr (some 79)), .inr (.inr (some 80)), .inr (.inr (some 81)), .inl (.negSucc 0, .ofNat 6), .inr (.inr (some 82)), .inr (.inr (some 83)), .inr (.inr (some 84)), .inr (.inr (some 85)), .inr (.inr (some 86)), .inl am_top, .inr (.inr (some 87))])))
noncomputable def va_h302 : am_H := (80, [(62, va_c187)])
noncomputable def va_c188 : am_C := .inr (.inr (.inr (7, [.inr (.inr (some 71)), .inr (.inr (some 72)), .inl (.ofNat 2, .ofNat 5), .inl (.ofNat 2, .ofNat 5), .inl (.ofNat 0, .ofNat 5), .inr (.inr (some 73)), .inl (.ofNat 2, .ofNat 5), .inl (.ofNat 2, .ofNat 5), .inl (.ofNat 0, .ofNat 5), .inl am_top, .inl am_top, .inl am_top, .inr (.inr (some 74)), .inl (.ofNat 0, .ofNat 160), .inl (.ofNat 123, .ofNat 123), .inl (.ofNat 0, .ofNat 160), .inl (.ofNat 0, .ofNat 3), .inl am_top, .inl (.ofNat 0, .ofNat 0), .inl am_top, .inr (.inr (some 75)), .inr (.inr (some 76)), .inr (.inr (some 77)), .inr (.inr (some 78)), .inr (.inr (some 79)), .inr (.inr (some 80)), .inr (.inr (some 81)), .inl (.negSucc 0, .ofNat 6), .inr (.inr (some 82)), .inr (.inr (some 83)), .inr (.inr (some 84)), .inr (.inr (some 85)), .inr (.inr (some 86)), .inl am_top, .inr (.inr (some 87))])))
noncomputable def va_h303 : am_H := (80, [(62, va_c188)])
noncomputable def va_c189 : am_C := .inr (.inr (.inr (7, [.inr (.inr (some 71)), .inr (.inr (some 72)), .inl (.ofNat 2, .ofNat 5), .inl (.ofNat 2, .ofNat 5), .inl (.ofNat 0, .ofNat 5), .inr (.inr (some 73)), .inl (.ofNat 2, .ofNat 5), .inl (.ofNat 2, .ofNat 5), .inl (.ofNat 0, .ofNat 5), .inl am_top, .inl am_top, .inl am_top, .inr (.inr (some 74)), .inl (.ofNat 0, .ofNat 160), .inl (.ofNat 124, .ofNat 124), .inl (.ofNat 0, .ofNat 160), .inl (.ofNat 0, .ofNat 3), .inl am_top, .inl (.ofNat 0, .ofNat 0), .inl am_top, .inr (.inr (some 75)), .inr (.inr (some 76)), .inr (.inr (some 77)), .inr (.inr (some 78)), .inr (.inr (some 79)), .inr (.inr (some 80)), .inr (.inr (some 81)), .inl (.negSucc 0, .ofNat 6), .inr (.inr (some 82)), .inr (.inr (some 83)), .inr (.inr (some 84)), .inr (.inr (some 85)), .inr (.inr (some 86)), .inl am_top, .inr (.inr (some 87))])))
noncomputable def va_h304 : am_H := (80, [(62, va_c189)])
noncomputable def va_c190 : am_C := .inr (.inr (.inr (7, [.inr (.inr (some 71)), .inr (.inr (some 72)), .inl (.ofNat 2, .ofNat 5), .inl (.ofNat 2, .ofNat 5), .inl (.ofNat 0, .ofNat 5), .inr (.inr (some 73)), .inl (.ofNat 2, .ofNat 5), .inl (.ofNat 2, .ofNat 5), .inl (.ofNat 0, .ofNat 5), .inl am_top, .inl am_top, .inl am_top, .inr (.inr (some 74)), .inl (.ofNat 0, .ofNat 160), .inl (.ofNat 125, .ofNat 125), .inl (.ofNat 0, .ofNat 160), .inl (.ofNat 0, .ofNat 3), .inl am_top, .inl (.ofNat 0, .ofNat 0), .inl am_top, .inr (.inr (some 75)), .inr (.inr (some 76)), .inr (.inr (some 77)), .inr (.inr (some 78)), .inr (.inr (some 79)), .inr (.inr (some 80)), .inr (.inr (some 81)), .inl (.negSucc 0, .ofNat 6), .inr (.inr (some 82)), .inr (.inr (some 83)), .inr (.inr (some 84)), .inr (.inr (some 85)), .inr (.inr (some 86)), .inl am_top, .inr (.inr (some 87))])))
noncomputable def va_h305 : am_H := (80, [(62, va_c190)])
noncomputable def va_c191 : am_C := .inr (.inr (.inr (7, [.inr (.inr (some 71)), .inr (.inr (some 72)), .inl (.ofNat 2, .ofNat 5), .inl (.ofNat 2, .ofNat 5), .inl (.ofNat 0, .ofNat 5), .inr (.inr (some 73)), .inl (.ofNat 2, .ofNat 5), .inl (.ofNat 2, .ofNat 5), .inl (.ofNat 0, .ofNat 5), .inl am_top, .inl am_top, .inl am_top, .inr (.inr (some 74)), .inl (.ofNat 0, .ofNat 160), .inl (.ofNat 126, .ofNat 126), .inl (.ofNat 0, .ofNat 160), .inl (.ofNat 0, .ofNat 3), .inl am_top, .inl (.ofNat 0, .ofNat 0), .inl am_top, .inr (.inr (some 75)), .inr (.inr (some 76)), .inr (.inr (some 77)), .inr (.inr (some 78)), .inr (.inr (some 79)), .inr (.inr (some 80)), .inr (.inr (some 81)), .inl (.negSucc 0, .ofNat 6), .inr (.inr (some 82)), .inr (.inr (some 83)), .inr (.inr (some 84)), .inr (.inr (some 85)), .inr (.inr (some 86)), .inl am_top, .inr (.inr (some 87))])))
noncomputable def va_h306 : am_H := (80, [(62, va_c191)])
noncomputable def va_c192 : am_C := .inr (.inr (.inr (7, [.inr (.inr (some 71)), .inr (.inr (some 72)), .inl (.ofNat 2, .ofNat 5), .inl (.ofNat 2, .ofNat 5), .inl (.ofNat 0, .ofNat 5), .inr (.inr (some 73)), .inl (.ofNat 2, .ofNat 5), .inl (.ofNat 2, .ofNat 5), .inl (.ofNat 0, .ofNat 5), .inl am_top, .inl am_top, .inl am_top, .inr (.inr (some 74)), .inl (.ofNat 0, .ofNat 160), .inl (.ofNat 127, .ofNat 127), .inl (.ofNat 0, .ofNat 160), .inl (.ofNat 0, .ofNat 3), .inl am_top, .inl (.ofNat 0, .ofNat 0), .inl am_top, .inr (.inr (some 75)), .inr (.inr (some 76)), .inr (.inr (some 77)), .inr (.inr (some 78)), .inr (.inr (some 79)), .inr (.inr (some 80)), .inr (.inr (some 81)), .inl (.negSucc 0, .ofNat 6), .inr (.inr (some 82)), .inr (.inr (some 83)), .inr (.inr (some 84)), .inr (.inr (some 85)), .inr (.inr (some 86)), .inl am_top, .inr (.inr (some 87))])))
noncomputable def va_h307 : am_H := (80, [(62, va_c192)])
noncomputable def va_c193 : am_C := .inr (.inr (.inr (7, [.inr (.inr (some 71)), .inr (.inr (some 72)), .inl (.ofNat 2, .ofNat 5), .inl (.ofNat 2, .ofNat 5), .inl (.ofNat 0, .ofNat 5), .inr (.inr (some 73)), .inl (.ofNat 2, .ofNat 5), .inl (.ofNat 2, .ofNat 5), .inl (.ofNat 0, .ofNat 5), .inl am_top, .inl am_top, .inl am_top, .inr (.inr (some 74)), .inl (.ofNat 0, .ofNat 160), .inl (.ofNat 128, .ofNat 128), .inl (.ofNat 0, .ofNat 160), .inl (.ofNat 0, .ofNat 3), .inl am_top, .inl (.ofNat 0, .ofNat 0), .inl am_top, .inr (.inr (some 75)), .inr (.inr (some 76)), .inr (.inr (some 77)), .inr (.inr (some 78)), .inr (.inr (some 79)), .inr (.inr (some 80)), .inr (.inr (some 81)), .inl (.negSucc 0, .ofNat 6), .inr (.inr (some 82)), .inr (.inr (some 83)), .inr (.inr (some 84)), .inr (.inr (some 85)), .inr (.inr (some 86)), .inl am_top, .inr (.inr (some 87))])))
noncomputable def va_h308 : am_H := (80, [(62, va_c193)])
noncomputable def va_c194 : am_C := .inr (.inr (.inr (7, [.inr (.inr (some 71)), .inr (.inr (some 72)), .inl (.ofNat 2, .ofNat 5), .inl (.ofNat 2, .ofNat 5), .inl (.ofNat 0, .ofNat 5), .inr (.inr (some 73)), .inl (.ofNat 2, .ofNat 5), .inl (.ofNat 2, .ofNat 5), .inl (.ofNat 0, .ofNat 5), .inl am_top, .inl am_top, .inl am_top, .inr (.inr (some 74)), .inl (.ofNat 0, .ofNat 160), .inl (.ofNat 129, .ofNat 129), .inl (.ofNat 0, .ofNat 160), .inl (.ofNat 0, .ofNat 3), .inl am_top, .inl (.ofNat 0, .ofNat 0), .inl am_top, .inr (.inr (some 75)), .inr (.inr (some 76)), .inr (.inr (some 77)), .inr (.inr (some 78)), .inr (.inr (some 79)), .inr (.inr (some 80)), .inr (.inr (some 81)), .inl (.negSucc 0, .ofNat 6), .inr (.inr (some 82)), .inr (.inr (some 83)), .inr (.inr (some 84)), .inr (.inr (some 85)), .inr (.inr (some 86)), .inl am_top, .inr (.inr (some 87))])))
noncomputable def va_h309 : am_H := (80, [(62, va_c194)])
noncomputable def va_c195 : am_C := .inr (.inr (.inr (7, [.inr (.inr (some 71)), .inr (.inr (some 72)), .inl (.ofNat 2, .ofNat 5), .inl (.ofNat 2, .ofNat 5), .inl (.ofNat 0, .ofNat 5), .inr (.inr (some 73)), .inl (.ofNat 2, .ofNat 5), .inl (.ofNat 2, .ofNat 5), .inl (.ofNat 0, .ofNat 5), .inl am_top, .inl am_top, .inl am_top, .inr (.inr (some 74)), .inl (.ofNat 0, .ofNat 160), .inl (.ofNat 130, .ofNat 130), .inl (.ofNat 0, .ofNat 160), .inl (.ofNat 0, .ofNat 3), .inl am_top, .inl (.ofNat 0, .ofNat 0), .inl am_top, .inr (.inr (some 75)), .inr (.inr (some 76)), .inr (.inr (some 77)), .inr (.inr (some 78)), .inr (.inr (some 79)), .inr (.inr (some 80)), .inr (.inr (some 81)), .inl (.negSucc 0, .ofNat 6), .inr (.inr (some 82)), .inr (.inr (some 83)), .inr (.inr (some 84)), .inr (.inr (some 85)), .inr (.inr (some 86)), .inl am_top, .inr (.inr (some 87))])))
noncomputable def va_h310 : am_H := (80, [(62, va_c195)])
noncomputable def va_c196 : am_C := .inr (.inr (.inr (7, [.inr (.inr (some 71)), .inr (.inr (some 72)), .inl (.ofNat 2, .ofNat 5), .inl (.ofNat 2, .ofNat 5), .inl (.ofNat 0, .ofNat 5), .inr (.inr (some 73)), .inl (.ofNat 2, .ofNat 5), .inl (.ofNat 2, .ofNat 5), .inl (.ofNat 0, .ofNat 5), .inl am_top, .inl am_top, .inl am_top, .inr (.inr (some 74)), .inl (.ofNat 0, .ofNat 160), .inl (.ofNat 131, .ofNat 131), .inl (.ofNat 0, .ofNat 160), .inl (.ofNat 0, .ofNat 3), .inl am_top, .inl (.ofNat 0, .ofNat 0), .inl am_top, .inr (.inr (some 75)), .inr (.inr (some 76)), .inr (.inr (some 77)), .inr (.inr (some 78)), .inr (.inr (some 79)), .inr (.inr (some 80)), .inr (.inr (some 81)), .inl (.negSucc 0, .ofNat 6), .inr (.inr (some 82)), .inr (.inr (some 83)), .inr (.inr (some 84)), .inr (.inr (some 85)), .inr (.inr (some 86)), .inl am_top, .inr (.inr (some 87))])))
noncomputable def va_h311 : am_H := (80, [(62, va_c196)])
noncomputable def va_c197 : am_C := .inr (.inr (.inr (7, [.inr (.inr (some 71)), .inr (.inr (some 72)), .inl (.ofNat 2, .ofNat 5), .inl (.ofNat 2, .ofNat 5), .inl (.ofNat 0, .ofNat 5), .inr (.inr (some 73)), .inl (.ofNat 2, .ofNat 5), .inl (.ofNat 2, .ofNat 5), .inl (.ofNat 0, .ofNat 5), .inl am_top, .inl am_top, .inl am_top, .inr (.inr (some 74)), .inl (.ofNat 0, .ofNat 160), .inl (.ofNat 132, .ofNat 132), .inl (.ofNat 0, .ofNat 160), .inl (.ofNat 0, .ofNat 3), .inl am_top, .inl (.ofNat 0, .ofNat 0), .inl am_top, .inr (.inr (some 75)), .inr (.inr (some 76)), .inr (.inr (some 77)), .inr (.inr (some 78)), .inr (.inr (some 79)), .inr (.inr (some 80)), .inr (.inr (some 81)), .inl (.negSucc 0, .ofNat 6), .inr (.inr (some 82)), .inr (.inr (some 83)), .inr (.inr (some 84)), .inr (.inr (some 85)), .inr (.inr (some 86)), .inl am_top, .inr (.inr (some 87))])))
noncomputable def va_h312 : am_H := (80, [(62, va_c197)])
noncomputable def va_c198 : am_C := .inr (.inr (.inr (7, [.inr (.inr (some 71)), .inr (.inr (some 72)), .inl (.ofNat 2, .ofNat 5), .inl (.ofNat 2, .ofNat 5), .inl (.ofNat 0, .ofNat 5), .inr (.inr (some 73)), .inl (.ofNat 2, .ofNat 5), .inl (.ofNat 2, .ofNat 5), .inl (.ofNat 0, .ofNat 5), .inl am_top, .inl am_top, .inl am_top, .inr (.inr (some 74)), .inl (.ofNat 0, .ofNat 160), .inl (.ofNat 133, .ofNat 133), .inl (.ofNat 0, .ofNat 160), .inl (.ofNat 0, .ofNat 3), .inl am_top, .inl (.ofNat 0, .ofNat 0), .inl am_top, .inr (.inr (some 75)), .inr (.inr (some 76)), .inr (.inr (some 77)), .inr (.inr (some 78)), .inr (.inr (some 79)), .inr (.inr (some 80)), .inr (.inr (some 81)), .inl (.negSucc 0, .ofNat 6), .inr (.inr (some 82)), .inr (.inr (some 83)), .inr (.inr (some 84)), .inr (.inr (some 85)), .inr (.inr (some 86)), .inl am_top, .inr (.inr (some 87))])))
noncomputable def va_h313 : am_H := (80, [(62, va_c198)])
noncomputable def va_c199 : am_C := .inr (.inr (.inr (7, [.inr (.inr (some 71)), .inr (.inr (some 72)), .inl (.ofNat 2, .ofNat 5), .inl (.ofNat 2, .ofNat 5), .inl (.ofNat 0, .ofNat 5), .inr (.inr (some 73)), .inl (.ofNat 2, .ofNat 5), .inl (.ofNat 2, .ofNat 5), .inl (.ofNat 0, .ofNat 5), .inl am_top, .inl am_top, .inl am_top, .inr (.inr (some 74)), .inl (.ofNat 0, .ofNat 160), .inl (.ofNat 134, .ofNat 134), .inl (.ofNat 0, .ofNat 160), .inl (.ofNat 0, .ofNat 3), .inl am_top, .inl (.ofNat 0, .ofNat 0), .inl am_top, .inr (.inr (some 75)), .inr (.inr (some 76)), .inr (.inr (some 77)), .inr (.inr (some 78)), .inr (.inr (some 79)), .inr (.inr (some 80)), .inr (.inr (some 81)), .inl (.negSucc 0, .ofNat 6), .inr (.inr (some 82)), .inr (.inr (some 83)), .inr (.inr (some 84)), .inr (.inr (some 85)), .inr (.inr (some 86)), .inl am_top, .inr (.inr (some 87))])))
noncomputable def va_h314 : am_H := (80, [(62, va_c199)])
noncomputable def va_c200 : am_C := .inr (.inr (.inr (7, [.inr (.inr (some 71)), .inr (.inr (some 72)), .inl (.ofNat 2, .ofNat 5), .inl (.ofNat 2, .ofNat 5), .inl (.ofNat 0, .ofNat 5), .inr (.inr (some 73)), .inl (.ofNat 2, .ofNat 5), .inl (.ofNat 2, .ofNat 5), .inl (.ofNat 0, .ofNat 5), .inl am_top, .inl am_top, .inl am_top, .inr (.inr (some 74)), .inl (.ofNat 0, .ofNat 160), .inl (.ofNat 135, .ofNat 135), .inl (.ofNat 0, .ofNat 160), .inl (.ofNat 0, .ofNat 3), .inl am_top, .inl (.ofNat 0, .ofNat 0), .inl am_top, .inr (.inr (some 75)), .inr (.inr (some 76)), .inr (.inr (some 77)), .inr (.inr (some 78)), .inr (.inr (some 79)), .inr (.inr (some 80)), .inr (.inr (some 81)), .inl (.negSucc 0, .ofNat 6), .inr (.inr (some 82)), .inr (.inr (some 83)), .inr (.inr (some 84)), .inr (.inr (some 85)), .inr (.inr (some 86)), .inl am_top, .inr (.inr (some 87))])))
noncomputable def va_h315 : am_H := (80, [(62, va_c200)])
noncomputable def va_c201 : am_C := .inr (.inr (.inr (7, [.inr (.inr (some 71)), .inr (.inr (some 72)), .inl (.ofNat 2, .ofNat 5), .inl (.ofNat 2, .ofNat 5), .inl (.ofNat 0, .ofNat 5), .inr (.inr (some 73)), .inl (.ofNat 2, .ofNat 5), .inl (.ofNat 2, .ofNat 5), .inl (.ofNat 0, .ofNat 5), .inl am_top, .inl am_top, .inl am_top, .inr (.inr (some 74)), .inl (.ofNat 0, .ofNat 160), .inl (.ofNat 136, .ofNat 136), .inl (.ofNat 0, .ofNat 160), .inl (.ofNat 0, .ofNat 3), .inl am_top, .inl (.ofNat 0, .ofNat 0), .inl am_top, .inr (.inr (some 75)), .inr (.inr (some 76)), .inr (.inr (some 77)), .inr (.inr (some 78)), .inr (.inr (some 79)), .inr (.inr (some 80)), .inr (.inr (some 81)), .inl (.negSucc 0, .ofNat 6), .inr (.inr (some 82)), .inr (.inr (some 83)), .inr (.inr (some 84)), .inr (.inr (some 85)), .inr (.inr (some 86)), .inl am_top, .inr (.inr (some 87))])))
noncomputable def va_h316 : am_H := (80, [(62, va_c201)])
noncomputable def va_c202 : am_C := .inr (.inr (.inr (7, [.inr (.inr (some 71)), .inr (.inr (some 72)), .inl (.ofNat 2, .ofNat 5), .inl (.ofNat 2, .ofNat 5), .inl (.ofNat 0, .ofNat 5), .inr (.inr (some 73)), .inl (.ofNat 2, .ofNat 5), .inl (.ofNat 2, .ofNat 5), .inl (.ofNat 0, .ofNat 5), .inl am_top, .inl am_top, .inl am_top, .inr (.inr (some 74)), .inl (.ofNat 0, .ofNat 160), .inl (.ofNat 137, .ofNat 137), .inl (.ofNat 0, .ofNat 160), .inl (.ofNat 0, .ofNat 3), .inl am_top, .inl (.ofNat 0, .ofNat 0), .inl am_top, .inr (.inr (some 75)), .inr (.inr (some 76)), .inr (.inr (some 77)), .inr (.inr (some 78)), .inr (.inr (some 79)), .inr (.inr (some 80)), .inr (.inr (some 81)), .inl (.negSucc 0, .ofNat 6), .inr (.inr (some 82)), .inr (.inr (some 83)), .inr (.inr (some 84)), .inr (.inr (some 85)), .inr (.inr (some 86)), .inl am_top, .inr (.inr (some 87))])))
noncomputable def va_h317 : am_H := (80, [(62, va_c202)])
noncomputable def va_c203 : am_C := .inr (.inr (.inr (7, [.inr (.inr (some 71)), .inr (.inr (some 72)), .inl (.ofNat 2, .ofNat 5), .inl (.ofNat 2, .ofNat 5), .inl (.ofNat 0, .ofNat 5), .inr (.inr (some 73)), .inl (.ofNat 2, .ofNat 5), .inl (.ofNat 2, .ofNat 5), .inl (.ofNat 0, .ofNat 5), .inl am_top, .inl am_top, .inl am_top, .inr (.inr (some 74)), .inl (.ofNat 0, .ofNat 160), .inl (.ofNat 138, .ofNat 138), .inl (.ofNat 0, .ofNat 160), .inl (.ofNat 0, .ofNat 3), .inl am_top, .inl (.ofNat 0, .ofNat 0), .inl am_top, .inr (.inr (some 75)), .inr (.inr (some 76)), .inr (.inr (some 77)), .inr (.inr (some 78)), .inr (.inr (some 79)), .inr (.inr (some 80)), .inr (.inr (some 81)), .inl (.negSucc 0, .ofNat 6), .inr (.inr (some 82)), .inr (.inr (some 83)), .inr (.inr (some 84)), .inr (.inr (some 85)), .inr (.inr (some 86)), .inl am_top, .inr (.inr (some 87))])))
noncomputable def va_h318 : am_H := (80, [(62, va_c203)])
noncomputable def va_c204 : am_C := .inr (.inr (.inr (7, [.inr (.inr (some 71)), .inr (.inr (some 72)), .inl (.ofNat 2, .ofNat 5), .inl (.ofNat 2, .ofNat 5), .inl (.ofNat 0, .ofNat 5), .inr (.inr (some 73)), .inl (.ofNat 2, .ofNat 5), .inl (.ofNat 2, .ofNat 5), .inl (.ofNat 0, .ofNat 5), .inl am_top, .inl am_top, .inl am_top, .inr (.inr (some 74)), .inl (.ofNat 0, .ofNat 160), .inl (.ofNat 139, .ofNat 139), .inl (.ofNat 0, .ofNat 160), .inl (.ofNat 0, .ofNat 3), .inl am_top, .inl (.ofNat 0, .ofNat 0), .inl am_top, .inr (.inr (some 75)), .inr (.inr (some 76)), .inr (.inr (some 77)), .inr (.inr (some 78)), .inr (.inr (some 79)), .inr (.inr (some 80)), .inr (.inr (some 81)), .inl (.negSucc 0, .ofNat 6), .inr (.inr (some 82)), .inr (.inr (some 83)), .inr (.inr (some 84)), .inr (.inr (some 85)), .inr (.inr (some 86)), .inl am_top, .inr (.inr (some 87))])))
noncomputable def va_h319 : am_H := (80, [(62, va_c204)])
noncomputable def va_c205 : am_C := .inr (.inr (.inr (7, [.inr (.inr (some 71)), .inr (.inr (some 72)), .inl (.ofNat 2, .ofNat 5), .inl (.ofNat 2, .ofNat 5), .inl (.ofNat 0, .ofNat 5), .inr (.inr (some 73)), .inl (.ofNat 2, .ofNat 5), .inl (.ofNat 2, .ofNat 5), .inl (.ofNat 0, .ofNat 5), .inl am_top, .inl am_top, .inl am_top, .inr (.inr (some 74)), .inl (.ofNat 0, .ofNat 160), .inl (.ofNat 140, .ofNat 140), .inl (.ofNat 0, .ofNat 160), .inl (.ofNat 0, .ofNat 3), .inl am_top, .inl (.ofNat 0, .ofNat 0), .inl am_top, .inr (.inr (some 75)), .inr (.inr (some 76)), .inr (.inr (some 77)), .inr (.inr (some 78)), .inr (.inr (some 79)), .inr (.inr (some 80)), .inr (.inr (some 81)), .inl (.negSucc 0, .ofNat 6), .inr (.inr (some 82)), .inr (.inr (some 83)), .inr (.inr (some 84)), .inr (.inr (some 85)), .inr (.inr (some 86)), .inl am_top, .inr (.inr (some 87))])))
noncomputable def va_h320 : am_H := (80, [(62, va_c205)])
noncomputable def va_c206 : am_C := .inr (.inr (.inr (7, [.inr (.inr (some 71)), .inr (.inr (some 72)), .inl (.ofNat 2, .ofNat 5), .inl (.ofNat 2, .ofNat 5), .inl (.ofNat 0, .ofNat 5), .inr (.inr (some 73)), .inl (.ofNat 2, .ofNat 5), .inl (.ofNat 2, .ofNat 5), .inl (.ofNat 0, .ofNat 5), .inl am_top, .inl am_top, .inl am_top, .inr (.inr (some 74)), .inl (.ofNat 0, .ofNat 160), .inl (.ofNat 141, .ofNat 141), .inl (.ofNat 0, .ofNat 160), .inl (.ofNat 0, .ofNat 3), .inl am_top, .inl (.ofNat 0, .ofNat 0), .inl am_top, .inr (.inr (some 75)), .inr (.inr (some 76)), .inr (.inr (some 77)), .inr (.inr (some 78)), .inr (.inr (some 79)), .inr (.inr (some 80)), .inr (.inr (some 81)), .inl (.negSucc 0, .ofNat 6), .inr (.inr (some 82)), .inr (.inr (some 83)), .inr (.inr (some 84)), .inr (.inr (some 85)), .inr (.inr (some 86)), .inl am_top, .inr (.inr (some 87))])))
noncomputable def va_h321 : am_H := (80, [(62, va_c206)])
noncomputable def va_c207 : am_C := .inr (.inr (.inr (7, [.inr (.inr (some 71)), .inr (.inr (some 72)), .inl (.ofNat 2, .ofNat 5), .inl (.ofNat 2, .ofNat 5), .inl (.ofNat 0, .ofNat 5), .inr (.inr (some 73)), .inl (.ofNat 2, .ofNat 5), .inl (.ofNat 2, .ofNat 5), .inl (.ofNat 0, .ofNat 5), .inl am_top, .inl am_top, .inl am_top, .inr (.inr (some 74)), .inl (.ofNat 0, .ofNat 160), .inl (.ofNat 142, .ofNat 142), .inl (.ofNat 0, .ofNat 160), .inl (.ofNat 0, .ofNat 3), .inl am_top, .inl (.ofNat 0, .ofNat 0), .inl am_top, .inr (.inr (some 75)), .inr (.inr (some 76)), .inr (.inr (some 77)), .inr (.inr (some 78)), .inr (.inr (some 79)), .inr (.inr (some 80)), .inr (.inr (some 81)), .inl (.negSucc 0, .ofNat 6), .inr (.inr (some 82)), .inr (.inr (some 83)), .inr (.inr (some 84)), .inr (.inr (some 85)), .inr (.inr (some 86)), .inl am_top, .inr (.inr (some 87))])))
noncomputable def va_h322 : am_H := (80, [(62, va_c207)])
noncomputable def va_c208 : am_C := .inr (.inr (.inr (7, [.inr (.inr (some 71)), .inr (.inr (some 72)), .inl (.ofNat 2, .ofNat 5), .inl (.ofNat 2, .ofNat 5), .inl (.ofNat 0, .ofNat 5), .inr (.inr (some 73)), .inl (.ofNat 2, .ofNat 5), .inl (.ofNat 2, .ofNat 5), .inl (.ofNat 0, .ofNat 5), .inl am_top, .inl am_top, .inl am_top, .inr (.inr (some 74)), .inl (.ofNat 0, .ofNat 160), .inl (.ofNat 143, .ofNat 143), .inl (.ofNat 0, .ofNat 160), .inl (.ofNat 0, .ofNat 3), .inl am_top, .inl (.ofNat 0, .ofNat 0), .inl am_top, .inr (.inr (some 75)), .inr (.inr (some 76)), .inr (.inr (some 77)), .inr (.inr (some 78)), .inr (.inr (some 79)), .inr (.inr (some 80)), .inr (.inr (some 81)), .inl (.negSucc 0, .ofNat 6), .inr (.inr (some 82)), .inr (.inr (some 83)), .inr (.inr (some 84)), .inr (.inr (some 85)), .inr (.inr (some 86)), .inl am_top, .inr (.inr (some 87))])))
noncomputable def va_h323 : am_H := (80, [(62, va_c208)])
noncomputable def va_c209 : am_C := .inr (.inr (.inr (7, [.inr (.inr (some 71)), .inr (.inr (some 72)), .inl (.ofNat 2, .ofNat 5), .inl (.ofNat 2, .ofNat 5), .inl (.ofNat 0, .ofNat 5), .inr (.inr (some 73)), .inl (.ofNat 2, .ofNat 5), .inl (.ofNat 2, .ofNat 5), .inl (.ofNat 0, .ofNat 5), .inl am_top, .inl am_top, .inl am_top, .inr (.inr (some 74)), .inl (.ofNat 0, .ofNat 160), .inl (.ofNat 144, .ofNat 144), .inl (.ofNat 0, .ofNat 160), .inl (.ofNat 0, .ofNat 3), .inl am_top, .inl (.ofNat 0, .ofNat 0), .inl am_top, .inr (.inr (some 75)), .inr (.inr (some 76)), .inr (.inr (some 77)), .inr (.inr (some 78)), .inr (.inr (some 79)), .inr (.inr (some 80)), .inr (.inr (some 81)), .inl (.negSucc 0, .ofNat 6), .inr (.inr (some 82)), .inr (.inr (some 83)), .inr (.inr (some 84)), .inr (.inr (some 85)), .inr (.inr (some 86)), .inl am_top, .inr (.inr (some 87))])))
noncomputable def va_h324 : am_H := (80, [(62, va_c209)])
noncomputable def va_c210 : am_C := .inr (.inr (.inr (7, [.inr (.inr (some 71)), .inr (.inr (some 72)), .inl (.ofNat 2, .ofNat 5), .inl (.ofNat 2, .ofNat 5), .inl (.ofNat 0, .ofNat 5), .inr (.inr (some 73)), .inl (.ofNat 2, .ofNat 5), .inl (.ofNat 2, .ofNat 5), .inl (.ofNat 0, .ofNat 5), .inl am_top, .inl am_top, .inl am_top, .inr (.inr (some 74)), .inl (.ofNat 0, .ofNat 160), .inl (.ofNat 145, .ofNat 145), .inl (.ofNat 0, .ofNat 160), .inl (.ofNat 0, .ofNat 3), .inl am_top, .inl (.ofNat 0, .ofNat 0), .inl am_top, .inr (.inr (some 75)), .inr (.inr (some 76)), .inr (.inr (some 77)), .inr (.inr (some 78)), .inr (.inr (some 79)), .inr (.inr (some 80)), .inr (.inr (some 81)), .inl (.negSucc 0, .ofNat 6), .inr (.inr (some 82)), .inr (.inr (some 83)), .inr (.inr (some 84)), .inr (.inr (some 85)), .inr (.inr (some 86)), .inl am_top, .inr (.inr (some 87))])))
noncomputable def va_h325 : am_H := (80, [(62, va_c210)])
noncomputable def va_c211 : am_C := .inr (.inr (.inr (7, [.inr (.inr (some 71)), .inr (.inr (some 72)), .inl (.ofNat 2, .ofNat 5), .inl (.ofNat 2, .ofNat 5), .inl (.ofNat 0, .ofNat 5), .inr (.inr (some 73)), .inl (.ofNat 2, .ofNat 5), .inl (.ofNat 2, .ofNat 5), .inl (.ofNat 0, .ofNat 5), .inl am_top, .inl am_top, .inl am_top, .inr (.inr (some 74)), .inl (.ofNat 0, .ofNat 160), .inl (.ofNat 146, .ofNat 146), .inl (.ofNat 0, .ofNat 160), .inl (.ofNat 0, .ofNat 3), .inl am_top, .inl (.ofNat 0, .ofNat 0), .inl am_top, .inr (.inr (some 75)), .inr (.inr (some 76)), .inr (.inr (some 77)), .inr (.inr (some 78)), .inr (.inr (some 79)), .inr (.inr (some 80)), .inr (.inr (some 81)), .inl (.negSucc 0, .ofNat 6), .inr (.inr (some 82)), .inr (.inr (some 83)), .inr (.inr (some 84)), .inr (.inr (some 85)), .inr (.inr (some 86)), .inl am_top, .inr (.inr (some 87))])))
noncomputable def va_h326 : am_H := (80, [(62, va_c211)])
noncomputable def va_c212 : am_C := .inr (.inr (.inr (7, [.inr (.inr (some 71)), .inr (.inr (some 72)), .inl (.ofNat 2, .ofNat 5), .inl (.ofNat 2, .ofNat 5), .inl (.ofNat 0, .ofNat 5), .inr (.inr (some 73)), .inl (.ofNat 2, .ofNat 5), .inl (.ofNat 2, .ofNat 5), .inl (.ofNat 0, .ofNat 5), .inl am_top, .inl am_top, .inl am_top, .inr (.inr (some 74)), .inl (.ofNat 0, .ofNat 160), .inl (.ofNat 147, .ofNat 147), .inl (.ofNat 0, .ofNat 160), .inl (.ofNat 0, .ofNat 3), .inl am_top, .inl (.ofNat 0, .ofNat 0), .inl am_top, .inr (.inr (some 75)), .inr (.inr (some 76)), .inr (.inr (some 77)), .inr (.inr (some 78)), .inr (.inr (some 79)), .inr (.inr (some 80)), .inr (.inr (some 81)), .inl (.negSucc 0, .ofNat 6), .inr (.inr (some 82)), .inr (.inr (some 83)), .inr (.inr (some 84)), .inr (.inr (some 85)), .inr (.inr (some 86)), .inl am_top, .inr (.inr (some 87))])))
noncomputable def va_h327 : am_H := (80, [(62, va_c212)])
noncomputable def va_c213 : am_C := .inr (.inr (.inr (7, [.inr (.inr (some 71)), .inr (.inr (some 72)), .inl (.ofNat 2, .ofNat 5), .inl (.ofNat 2, .ofNat 5), .inl (.ofNat 0, .ofNat 5), .inr (.inr (some 73)), .inl (.ofNat 2, .ofNat 5), .inl (.ofNat 2, .ofNat 5), .inl (.ofNat 0, .ofNat 5), .inl am_top, .inl am_top, .inl am_top, .inr (.inr (some 74)), .inl (.ofNat 0, .ofNat 160), .inl (.ofNat 148, .ofNat 148), .inl (.ofNat 0, .ofNat 160), .inl (.ofNat 0, .ofNat 3), .inl am_top, .inl (.ofNat 0, .ofNat 0), .inl am_top, .inr (.inr (some 75)), .inr (.inr (some 76)), .inr (.inr (some 77)), .inr (.inr (some 78)), .inr (.inr (some 79)), .inr (.inr (some 80)), .inr (.inr (some 81)), .inl (.negSucc 0, .ofNat 6), .inr (.inr (some 82)), .inr (.inr (some 83)), .inr (.inr (some 84)), .inr (.inr (some 85)), .inr (.inr (some 86)), .inl am_top, .inr (.inr (some 87))])))
noncomputable def va_h328 : am_H := (80, [(62, va_c213)])
noncomputable def va_c214 : am_C := .inr (.inr (.inr (7, [.inr (.inr (some 71)), .inr (.inr (some 72)), .inl (.ofNat 2, .ofNat 5), .inl (.ofNat 2, .ofNat 5), .inl (.ofNat 0, .ofNat 5), .inr (.inr (some 73)), .inl (.ofNat 2, .ofNat 5), .inl (.ofNat 2, .ofNat 5), .inl (.ofNat 0, .ofNat 5), .inl am_top, .inl am_top, .inl am_top, .inr (.inr (some 74)), .inl (.ofNat 0, .ofNat 160), .inl (.ofNat 149, .ofNat 149), .inl (.ofNat 0, .ofNat 160), .inl (.ofNat 0, .ofNat 3), .inl am_top, .inl (.ofNat 0, .ofNat 0), .inl am_top, .inr (.inr (some 75)), .inr (.inr (some 76)), .inr (.inr (some 77)), .inr (.inr (some 78)), .inr (.inr (some 79)), .inr (.inr (some 80)), .inr (.inr (some 81)), .inl (.negSucc 0, .ofNat 6), .inr (.inr (some 82)), .inr (.inr (some 83)), .inr (.inr (some 84)), .inr (.inr (some 85)), .inr (.inr (some 86)), .inl am_top, .inr (.inr (some 87))])))
noncomputable def va_h329 : am_H := (80, [(62, va_c214)])
noncomputable def va_c215 : am_C := .inr (.inr (.inr (7, [.inr (.inr (some 71)), .inr (.inr (some 72)), .inl (.ofNat 2, .ofNat 5), .inl (.ofNat 2, .ofNat 5), .inl (.ofNat 0, .ofNat 5), .inr (.inr (some 73)), .inl (.ofNat 2, .ofNat 5), .inl (.ofNat 2, .ofNat 5), .inl (.ofNat 0, .ofNat 5), .inl am_top, .inl am_top, .inl am_top, .inr (.inr (some 74)), .inl (.ofNat 0, .ofNat 160), .inl (.ofNat 150, .ofNat 150), .inl (.ofNat 0, .ofNat 160), .inl (.ofNat 0, .ofNat 3), .inl am_top, .inl (.ofNat 0, .ofNat 0), .inl am_top, .inr (.inr (some 75)), .inr (.inr (some 76)), .inr (.inr (some 77)), .inr (.inr (some 78)), .inr (.inr (some 79)), .inr (.inr (some 80)), .inr (.inr (some 81)), .inl (.negSucc 0, .ofNat 6), .inr (.inr (some 82)), .inr (.inr (some 83)), .inr (.inr (some 84)), .inr (.inr (some 85)), .inr (.inr (some 86)), .inl am_top, .inr (.inr (some 87))])))
noncomputable def va_h330 : am_H := (80, [(62, va_c215)])
noncomputable def va_c216 : am_C := .inr (.inr (.inr (7, [.inr (.inr (some 71)), .inr (.inr (some 72)), .inl (.ofNat 2, .ofNat 5), .inl (.ofNat 2, .ofNat 5), .inl (.ofNat 0, .ofNat 5), .inr (.inr (some 73)), .inl (.ofNat 2, .ofNat 5), .inl (.ofNat 2, .ofNat 5), .inl (.ofNat 0, .ofNat 5), .inl am_top, .inl am_top, .inl am_top, .inr (.inr (some 74)), .inl (.ofNat 0, .ofNat 160), .inl (.ofNat 151, .ofNat 151), .inl (.ofNat 0, .ofNat 160), .inl (.ofNat 0, .ofNat 3), .inl am_top, .inl (.ofNat 0, .ofNat 0), .inl am_top, .inr (.inr (some 75)), .inr (.inr (some 76)), .inr (.inr (some 77)), .inr (.inr (some 78)), .inr (.inr (some 79)), .inr (.inr (some 80)), .inr (.inr (some 81)), .inl (.negSucc 0, .ofNat 6), .inr (.inr (some 82)), .inr (.inr (some 83)), .inr (.inr (some 84)), .inr (.inr (some 85)), .inr (.inr (some 86)), .inl am_top, .inr (.inr (some 87))])))
noncomputable def va_h331 : am_H := (80, [(62, va_c216)])
noncomputable def va_c217 : am_C := .inr (.inr (.inr (7, [.inr (.inr (some 71)), .inr (.inr (some 72)), .inl (.ofNat 2, .ofNat 5), .inl (.ofNat 2, .ofNat 5), .inl (.ofNat 0, .ofNat 5), .inr (.inr (some 73)), .inl (.ofNat 2, .ofNat 5), .inl (.ofNat 2, .ofNat 5), .inl (.ofNat 0, .ofNat 5), .inl am_top, .inl am_top, .inl am_top, .inr (.inr (some 74)), .inl (.ofNat 0, .ofNat 160), .inl (.ofNat 152, .ofNat 152), .inl (.ofNat 0, .ofNat 160), .inl (.ofNat 0, .ofNat 3), .inl am_top, .inl (.ofNat 0, .ofNat 0), .inl am_top, .inr (.inr (some 75)), .inr (.inr (some 76)), .inr (.inr (some 77)), .inr (.inr (some 78)), .inr (.inr (some 79)), .inr (.inr (some 80)), .inr (.inr (some 81)), .inl (.negSucc 0, .ofNat 6), .inr (.inr (some 82)), .inr (.inr (some 83)), .inr (.inr (some 84)), .inr (.inr (some 85)), .inr (.inr (some 86)), .inl am_top, .inr (.inr (some 87))])))
noncomputable def va_h332 : am_H := (80, [(62, va_c217)])
noncomputable def va_c218 : am_C := .inr (.inr (.inr (7, [.inr (.inr (some 71)), .inr (.inr (some 72)), .inl (.ofNat 2, .ofNat 5), .inl (.ofNat 2, .ofNat 5), .inl (.ofNat 0, .ofNat 5), .inr (.inr (some 73)), .inl (.ofNat 2, .ofNat 5), .inl (.ofNat 2, .ofNat 5), .inl (.ofNat 0, .ofNat 5), .inl am_top, .inl am_top, .inl am_top, .inr (.inr (some 74)), .inl (.ofNat 0, .ofNat 160), .inl (.ofNat 153, .ofNat 153), .inl (.ofNat 0, .ofNat 160), .inl (.ofNat 0, .ofNat 3), .inl am_top, .inl (.ofNat 0, .ofNat 0), .inl am_top, .inr (.inr (some 75)), .inr (.inr (some 76)), .inr (.inr (some 77)), .inr (.inr (some 78)), .inr (.inr (some 79)), .inr (.inr (some 80)), .inr (.inr (some 81)), .inl (.negSucc 0, .ofNat 6), .inr (.inr (some 82)), .inr (.inr (some 83)), .inr (.inr (some 84)), .inr (.inr (some 85)), .inr (.inr (some 86)), .inl am_top, .inr (.inr (some 87))])))
noncomputable def va_h333 : am_H := (80, [(62, va_c218)])
noncomputable def va_c219 : am_C := .inr (.inr (.inr (7, [.inr (.inr (some 71)), .inr (.inr (some 72)), .inl (.ofNat 2, .ofNat 5), .inl (.ofNat 2, .ofNat 5), .inl (.ofNat 0, .ofNat 5), .inr (.inr (some 73)), .inl (.ofNat 2, .ofNat 5), .inl (.ofNat 2, .ofNat 5), .inl (.ofNat 0, .ofNat 5), .inl am_top, .inl am_top, .inl am_top, .inr (.inr (some 74)), .inl (.ofNat 0, .ofNat 160), .inl (.ofNat 154, .ofNat 154), .inl (.ofNat 0, .ofNat 160), .inl (.ofNat 0, .ofNat 3), .inl am_top, .inl (.ofNat 0, .ofNat 0), .inl am_top, .inr (.inr (some 75)), .inr (.inr (some 76)), .inr (.inr (some 77)), .inr (.inr (some 78)), .inr (.inr (some 79)), .inr (.inr (some 80)), .inr (.inr (some 81)), .inl (.negSucc 0, .ofNat 6), .inr (.inr (some 82)), .inr (.inr (some 83)), .inr (.inr (some 84)), .inr (.inr (some 85)), .inr (.inr (some 86)), .inl am_top, .inr (.inr (some 87))])))
noncomputable def va_h334 : am_H := (80, [(62, va_c219)])
noncomputable def va_c220 : am_C := .inr (.inr (.inr (7, [.inr (.inr (some 71)), .inr (.inr (some 72)), .inl (.ofNat 2, .ofNat 5), .inl (.ofNat 2, .ofNat 5), .inl (.ofNat 0, .ofNat 5), .inr (.inr (some 73)), .inl (.ofNat 2, .ofNat 5), .inl (.ofNat 2, .ofNat 5), .inl (.ofNat 0, .ofNat 5), .inl am_top, .inl am_top, .inl am_top, .inr (.inr (some 74)), .inl (.ofNat 0, .ofNat 160), .inl (.ofNat 155, .ofNat 155), .inl (.ofNat 0, .ofNat 160), .inl (.ofNat 0, .ofNat 3), .inl am_top, .inl (.ofNat 0, .ofNat 0), .inl am_top, .inr (.inr (some 75)), .inr (.inr (some 76)), .inr (.inr (some 77)), .inr (.inr (some 78)), .inr (.inr (some 79)), .inr (.inr (some 80)), .inr (.inr (some 81)), .inl (.negSucc 0, .ofNat 6), .inr (.inr (some 82)), .inr (.inr (some 83)), .inr (.inr (some 84)), .inr (.inr (some 85)), .inr (.inr (some 86)), .inl am_top, .inr (.inr (some 87))])))
noncomputable def va_h335 : am_H := (80, [(62, va_c220)])
noncomputable def va_c221 : am_C := .inr (.inr (.inr (7, [.inr (.inr (some 71)), .inr (.inr (some 72)), .inl (.ofNat 2, .ofNat 5), .inl (.ofNat 2, .ofNat 5), .inl (.ofNat 0, .ofNat 5), .inr (.inr (some 73)), .inl (.ofNat 2, .ofNat 5), .inl (.ofNat 2, .ofNat 5), .inl (.ofNat 0, .ofNat 5), .inl am_top, .inl am_top, .inl am_top, .inr (.inr (some 74)), .inl (.ofNat 0, .ofNat 160), .inl (.ofNat 156, .ofNat 156), .inl (.ofNat 0, .ofNat 160), .inl (.ofNat 0, .ofNat 3), .inl am_top, .inl (.ofNat 0, .ofNat 0), .inl am_top, .inr (.inr (some 75)), .inr (.inr (some 76)), .inr (.inr (some 77)), .inr (.inr (some 78)), .inr (.inr (some 79)), .inr (.inr (some 80)), .inr (.inr (some 81)), .inl (.negSucc 0, .ofNat 6), .inr (.inr (some 82)), .inr (.inr (some 83)), .inr (.inr (some 84)), .inr (.inr (some 85)), .inr (.inr (some 86)), .inl am_top, .inr (.inr (some 87))])))
noncomputable def va_h336 : am_H := (80, [(62, va_c221)])
noncomputable def va_c222 : am_C := .inr (.inr (.inr (7, [.inr (.inr (some 71)), .inr (.inr (some 72)), .inl (.ofNat 2, .ofNat 5), .inl (.ofNat 2, .ofNat 5), .inl (.ofNat 0, .ofNat 5), .inr (.inr (some 73)), .inl (.ofNat 2, .ofNat 5), .inl (.ofNat 2, .ofNat 5), .inl (.ofNat 0, .ofNat 5), .inl am_top, .inl am_top, .inl am_top, .inr (.inr (some 74)), .inl (.ofNat 0, .ofNat 160), .inl (.ofNat 157, .ofNat 157), .inl (.ofNat 0, .ofNat 160), .inl (.ofNat 0, .ofNat 3), .inl am_top, .inl (.ofNat 0, .ofNat 0), .inl am_top, .inr (.inr (some 75)), .inr (.inr (some 76)), .inr (.inr (some 77)), .inr (.inr (some 78)), .inr (.inr (some 79)), .inr (.inr (some 80)), .inr (.inr (some 81)), .inl (.negSucc 0, .ofNat 6), .inr (.inr (some 82)), .inr (.inr (some 83)), .inr (.inr (some 84)), .inr (.inr (some 85)), .inr (.inr (some 86)), .inl am_top, .inr (.inr (some 87))])))
noncomputable def va_h337 : am_H := (80, [(62, va_c222)])
noncomputable def va_c223 : am_C := .inr (.inr (.inr (7, [.inr (.inr (some 71)), .inr (.inr (some 72)), .inl (.ofNat 2, .ofNat 5), .inl (.ofNat 2, .ofNat 5), .inl (.ofNat 0, .ofNat 5), .inr (.inr (some 73)), .inl (.ofNat 2, .ofNat 5), .inl (.ofNat 2, .ofNat 5), .inl (.ofNat 0, .ofNat 5), .inl am_top, .inl am_top, .inl am_top, .inr (.inr (some 74)), .inl (.ofNat 0, .ofNat 160), .inl (.ofNat 158, .ofNat 158), .inl (.ofNat 0, .ofNat 160), .inl (.ofNat 0, .ofNat 3), .inl am_top, .inl (.ofNat 0, .ofNat 0), .inl am_top, .inr (.inr (some 75)), .inr (.inr (some 76)), .inr (.inr (some 77)), .inr (.inr (some 78)), .inr (.inr (some 79)), .inr (.inr (some 80)), .inr (.inr (some 81)), .inl (.negSucc 0, .ofNat 6), .inr (.inr (some 82)), .inr (.inr (some 83)), .inr (.inr (some 84)), .inr (.inr (some 85)), .inr (.inr (some 86)), .inl am_top, .inr (.inr (some 87))])))
noncomputable def va_h338 : am_H := (80, [(62, va_c223)])
noncomputable def va_c224 : am_C := .inr (.inr (.inr (7, [.inr (.inr (some 71)), .inr (.inr (some 72)), .inl (.ofNat 2, .ofNat 5), .inl (.ofNat 2, .ofNat 5), .inl (.ofNat 0, .ofNat 5), .inr (.inr (some 73)), .inl (.ofNat 2, .ofNat 5), .inl (.ofNat 2, .ofNat 5), .inl (.ofNat 0, .ofNat 5), .inl am_top, .inl am_top, .inl am_top, .inr (.inr (some 74)), .inl (.ofNat 0, .ofNat 160), .inl (.ofNat 159, .ofNat 159), .inl (.ofNat 0, .ofNat 160), .inl (.ofNat 0, .ofNat 3), .inl am_top, .inl (.ofNat 0, .ofNat 0), .inl am_top, .inr (.inr (some 75)), .inr (.inr (some 76)), .inr (.inr (some 77)), .inr (.inr (some 78)), .inr (.inr (some 79)), .inr (.inr (some 80)), .inr (.inr (some 81)), .inl (.negSucc 0, .ofNat 6), .inr (.inr (some 82)), .inr (.inr (some 83)), .inr (.inr (some 84)), .inr (.inr (some 85)), .inr (.inr (some 86)), .inl am_top, .inr (.inr (some 87))])))
noncomputable def va_h339 : am_H := (80, [(62, va_c224)])
noncomputable def va_c225 : am_C := .inr (.inr (.inr (7, [.inr (.inr (some 71)), .inr (.inr (some 72)), .inl (.ofNat 2, .ofNat 5), .inl (.ofNat 2, .ofNat 5), .inl (.ofNat 0, .ofNat 5), .inr (.inr (some 73)), .inl (.ofNat 2, .ofNat 5), .inl (.ofNat 2, .ofNat 5), .inl (.ofNat 0, .ofNat 5), .inl am_top, .inl am_top, .inl am_top, .inr (.inr (some 74)), .inl (.ofNat 0, .ofNat 160), .inl (.ofNat 160, .ofNat 160), .inl (.ofNat 0, .ofNat 160), .inl (.ofNat 0, .ofNat 3), .inl am_top, .inl (.ofNat 0, .ofNat 0), .inl am_top, .inr (.inr (some 75)), .inr (.inr (some 76)), .inr (.inr (some 77)), .inr (.inr (some 78)), .inr (.inr (some 79)), .inr (.inr (some 80)), .inr (.inr (some 81)), .inl (.negSucc 0, .ofNat 6), .inr (.inr (some 82)), .inr (.inr (some 83)), .inr (.inr (some 84)), .inr (.inr (some 85)), .inr (.inr (some 86)), .inl am_top, .inr (.inr (some 87))])))
noncomputable def va_h340 : am_H := (80, [(62, va_c225)])
noncomputable def vp_898 (s : Nat) : List vm_R := match Nat.ble 160 s with
  | false => [(none, (80, [(62, .inr (.inr (.inr (7, [.inr (.inr (some 71)), .inr (.inr (some 72)), .inl (.ofNat 2, .ofNat 5), .inl (.ofNat 2, .ofNat 5), .inl (.ofNat 0, .ofNat 5), .inr (.inr (some 73)), .inl (.ofNat 2, .ofNat 5), .inl (.ofNat 2, .ofNat 5), .inl (.ofNat 0, .ofNat 5), .inl am_top, .inl am_top, .inl am_top, .inr (.inr (some 74)), .inl (.ofNat 0, .ofNat 160), .inl (.ofNat (s + 0), .ofNat 160), .inl (.ofNat 0, .ofNat 160), .inl (.ofNat 0, .ofNat 0), .inl am_top, .inl (.ofNat 0, .ofNat 0), .inl am_top, .inr (.inr (some 75)), .inr (.inr (some 76)), .inr (.inr (some 77)), .inr (.inr (some 78)), .inr (.inr (some 79)), .inr (.inr (some 80)), .inr (.inr (some 81)), .inl (.negSucc 0, .ofNat 6), .inr (.inr (some 82)), .inr (.inr (some 83)), .inr (.inr (some 84)), .inr (.inr (some 85)), .inr (.inr (some 86)), .inl am_top, .inr (.inr (some 87))]))))])), (none, (80, [(62, .inr (.inr (.inr (7, [.inr (.inr (some 71)), .inr (.inr (some 72)), .inl (.ofNat 2, .ofNat 5), .inl (.ofNat 2, .ofNat 5), .inl (.ofNat 0, .ofNat 5), .inr (.inr (some 73)), .inl (.ofNat 2, .ofNat 5), .inl (.ofNat 2, .ofNat 5), .inl (.ofNat 0, .ofNat 5), .inl am_top, .inl am_top, .inl am_top, .inr (.inr (some 74)), .inl (.ofNat 0, .ofNat 160), .inl (.ofNat (s + 1), .ofNat 160), .inl (.ofNat 0, .ofNat 160), .inl (.ofNat 1, .ofNat 3), .inl am_top, .inl (.ofNat 0, .ofNat 0), .inl am_top, .inr (.inr (some 75)), .inr (.inr (some 76)), .inr (.inr (some 77)), .inr (.inr (some 78)), .inr (.inr (some 79)), .inr (.inr (some 80)), .inr (.inr (some 81)), .inl (.negSucc 0, .ofNat 6), .inr (.inr (some 82)), .inr (.inr (some 83)), .inr (.inr (some 84)), .inr (.inr (some 85)), .inr (.inr (some 86)), .inl am_top, .inr (.inr (some 87))]))))])), (none, (80, [(62, .inr (.inr (.inr (7, [.inr (.inr (some 71)), .inr (.inr (some 72)), .inl (.ofNat 2, .ofNat 5), .inl (.ofNat 2, .ofNat 5), .inl (.ofNat 0, .ofNat 5), .inr (.inr (some 73)), .inl (.ofNat 0, .ofNat 5), .inl (.ofNat 0, .ofNat 5), .inl (.ofNat 0, .ofNat 5), .inl am_top, .inl am_top, .inl am_top, .inr (.inr (some 74)), .inl (.ofNat 0, .ofNat 160), .inl (.ofNat 0, .ofNat 160), .inl (.ofNat 0, .ofNat 160), .inl (.ofNat 0, .ofNat 3), .inl am_top, .inl (.ofNat 1, .ofNat 6), .inl am_top, .inr (.inr (some 75)), .inr (.inr (some 76)), .inr (.inr (some 77)), .inr (.inr (some 78)), .inr (.inr (some 79)), .inr (.inr (some 80)), .inr (.inr (some 81)), .inl (.negSucc 0, .ofNat 6), .inr (.inr (some 82)), .inr (.inr (some 83)), .inr (.inr (some 84)), .inr (.inr (some 85)), .inr (.inr (some 86)), .inl am_top, .inr (.inr (some 87))]))))]))]
  | true => [(none, (80, [(62, .inr (.inr (.inr (7, [.inr (.inr (some 71)), .inr (.inr (some 72)), .inl (.ofNat 2, .ofNat 5), .inl (.ofNat 2, .ofNat 5), .inl (.ofNat 0, .ofNat 5), .inr (.inr (some 73)), .inl (.ofNat 2, .ofNat 5), .inl (.ofNat 2, .ofNat 5), .inl (.ofNat 0, .ofNat 5), .inl am_top, .inl am_top, .inl am_top, .inr (.inr (some 74)), .inl (.ofNat 0, .ofNat 160), .inl (.ofNat 160, .ofNat 160), .inl (.ofNat 0, .ofNat 160), .inl (.ofNat 0, .ofNat 0), .inl am_top, .inl (.ofNat 0, .ofNat 0), .inl am_top, .inr (.inr (some 75)), .inr (.inr (some 76)), .inr (.inr (some 77)), .inr (.inr (some 78)), .inr (.inr (some 79)), .inr (.inr (some 80)), .inr (.inr (some 81)), .inl (.negSucc 0, .ofNat 6), .inr (.inr (some 82)), .inr (.inr (some 83)), .inr (.inr (some 84)), .inr (.inr (some 85)), .inr (.inr (some 86)), .inl am_top, .inr (.inr (some 87))]))))])), (none, (80, [(62, .inr (.inr (.inr (7, [.inr (.inr (some 71)), .inr (.inr (some 72)), .inl (.ofNat 2, .ofNat 5), .inl (.ofNat 2, .ofNat 5), .inl (.ofNat 0, .ofNat 5), .inr (.inr (some 73)), .inl (.ofNat 0, .ofNat 5), .inl (.ofNat 0, .ofNat 5), .inl (.ofNat 0, .ofNat 5), .inl am_top, .inl am_top, .inl am_top, .inr (.inr (some 74)), .inl (.ofNat 0, .ofNat 160), .inl (.ofNat 0, .ofNat 160), .inl (.ofNat 0, .ofNat 160), .inl (.ofNat 0, .ofNat 3), .inl am_top, .inl (.ofNat 1, .ofNat 6), .inl am_top, .inr (.inr (some 75)), .inr (.inr (some 76)), .inr (.inr (some 77)), .inr (.inr (some 78)), .inr (.inr (some 79)), .inr (.inr (some 80)), .inr (.inr (some 81)), .inl (.negSucc 0, .ofNat 6), .inr (.inr (some 82)), .inr (.inr (some 83)), .inr (.inr (some 84)), .inr (.inr (some 85)), .inr (.inr (some 86)), .inl am_top, .inr (.inr (some 87))]))))]))]
noncomputable def vs_898 (s : Nat) : vm_E := ([.inr (.inr (some 70))], (80, [(62, .inr (.inr (.inr (7, [.inr (.inr (some 71)), .inr (.inr (some 72)), .inl (.ofNat 2, .ofNat 5), .inl (.ofNat 2, .ofNat 5), .inl (.ofNat 0, .ofNat 5), .inr (.inr (some 73)), .inl (.ofNat 2, .ofNat 5), .inl (.ofNat 2, .ofNat 5), .inl (.ofNat 0, .ofNat 5), .inl am_top, .inl am_top, .inl am_top, .inr (.inr (some 74)), .inl (.ofNat 0, .ofNat 160), .inl (.ofNat (s + 0), .ofNat (s + 0)), .inl (.ofNat 0, .ofNat 160), .inl (.ofNat 0, .ofNat 3), .inl am_top, .inl (.ofNat 0, .ofNat 0), .inl am_top, .inr (.inr (some 75)), .inr (.inr (some 76)), .inr (.inr (some 77)), .inr (.inr (some 78)), .inr (.inr (some 79)), .inr (.inr (some 80)), .inr (.inr (some 81)), .inl (.negSucc 0, .ofNat 6), .inr (.inr (some 82)), .inr (.inr (some 83)), .inr (.inr (some 84)), .inr (.inr (some 85)), .inr (.inr (some 86)), .inl am_top, .inr (.inr (some 87))]))))]), (s + 0), [(160 - s * 1)])
noncomputable def ve_898 : List vm_E := (List.range 161).map vs_898
noncomputable def q_898 (s : Nat) : vm_Q := (152, (vs_898 s).1, (vs_898 s).2.1, vp_898 s)
noncomputable def vk_898 : List vm_U := [(q_893, true, []), (q_896, true, []), (q_891, true, []), (q_892, true, []), (q_886, true, []), (q_887, true, []), (q_884, true, []), (q_885, true, []), (q_890, true, []), (q_882, true, []), (q_883, true, []), (q_888, true, []), (q_889, true, []), (q_894, true, []), (q_895, true, []), (q_897, true, []), (q_824, false, [(7, 62, 13), (7, 62, 14), (7, 62, 16)]), (q_826, false, [(7, 62, 13), (7, 62, 14), (7, 62, 16)])]
noncomputable def vf_898 : List ((Nat → am_I) → vm_A) := [fun v => (0, [(0, .inr (.inr (some 70)))], [], (80, [(62, .inr (.inr (.inr (7, [.inr (.inr (some 71)), .inr (.inr (some 72)), .inl (.ofNat 2, .ofNat 5), .inl (.ofNat 2, .ofNat 5), .inl (.ofNat 0, .ofNat 5), .inr (.inr (some 73)), .inl (.ofNat 2, .ofNat 5), .inl (.ofNat 2, .ofNat 5), .inl (.ofNat 0, .ofNat 5), .inl am_top, .inl am_top, .inl am_top, .inr (.inr (some 74)), .inl (.ofNat 0, .ofNat 160), .inl (v 0), .inl (.ofNat 0, .ofNat 160), .inl (.ofNat 0, .ofNat 3), .inl am_top, .inl (.ofNat 0, .ofNat 0), .inl am_top, .inr (.inr (some 75)), .inr (.inr (some 76)), .inr (.inr (some 77)), .inr (.inr (some 78)), .inr (.inr (some 79)), .inr (.inr (some 80)), .inr (.inr (some 81)), .inl (.negSucc 0, .ofNat 6), .inr (.inr (some 82)), .inr (.inr (some 83)), .inr (.inr (some 84)), .inr (.inr (some 85)), .inr (.inr (some 86)), .inl am_top, .inr (.inr (some 87))]))))])), fun v => (8, [(0, .inr (.inr (some 70)))], [], (80, [(62, .inr (.inr (.inr (7, [.inr (.inr (some 71)), .inr (.inr (some 72)), .inl (.ofNat 2, .ofNat 5), .inl (.ofNat 2, .ofNat 5), .inl (.ofNat 0, .ofNat 5), .inr (.inr (some 73)), .inl (.ofNat 2, .ofNat 5), .inl (.ofNat 2, .ofNat 5), .inl (.ofNat 0, .ofNat 5), .inl am_top, .inl am_top, .inl am_top, .inr (.inr (some 74)), .inl (v 0), .inl (v 1), .inl (.ofNat 0, .ofNat 160), .inl (.ofNat 0, .ofNat 3), .inl am_top, .inl (.ofNat 0, .ofNat 0), .inl am_top, .inr (.inr (some 75)), .inr (.inr (some 76)), .inr (.inr (some 77)), .inr (.inr (some 78)), .inr (.inr (some 79)), .inr (.inr (some 80)), .inr (.inr (some 81)), .inl (.negSucc 0, .ofNat 6), .inr (.inr (some 82)), .inr (.inr (some 83)), .inr (.inr (some 84)), .inr (.inr (some 85)), .inr (.inr (some 86)), .inl am_top, .inr (.inr (some 87))])))), (66, (fm_mod ab_30 (v 2) (v 3)))])), fun v => (82, [(0, .inr (.inr (some 70))), (1, .inl am_top)], [], (80, [(62, .inr (.inr (.inr (7, [.inr (.inr (some 71)), .inr (.inr (some 72)), .inl (.ofNat 2, .ofNat 5), .inl (.ofNat 2, .ofNat 5), .inl (.ofNat 0, .ofNat 5), .inr (.inr (some 73)), .inl (.ofNat 2, .ofNat 5), .inl (.ofNat 2, .ofNat 5), .inl (.ofNat 0, .ofNat 5), .inl am_top, .inl am_top, .inl am_top, .inr (.inr (some 74)), .inl (v 0), .inl (v 1), .inl (.ofNat 0, .ofNat 160), .inl (.ofNat 1, .ofNat 1), .inl am_top, .inl (.ofNat 0, .ofNat 0), .inl am_top, .inr (.inr (some 75)), .inr (.inr (some 76)), .inr (.inr (some 77)), .inr (.inr (some 78)), .inr (.inr (some 79)), .inr (.inr (some 80)), .inr (.inr (some 81)), .inl (.negSucc 0, .ofNat 6), .inr (.inr (some 82)), .inr (.inr (some 83)), .inr (.inr (some 84)), .inr (.inr (some 85)), .inr (.inr (some 86)), .inl am_top, .inr (.inr (some 87))])))), (66, (fm_mod ab_30 (v 2) (v 3)))])), fun v => (82, [(0, .inr (.inr (some 70))), (1, .inl am_top)], [], (80, [(62, .inr (.inr (.inr (7, [.inr (.inr (some 71)), .inr (.inr (some 72)), .inl (.ofNat 2, .ofNat 5), .inl (.ofNat 2, .ofNat 5), .inl (.ofNat 0, .ofNat 5), .inr (.inr (some 73)), .inl (.ofNat 2, .ofNat 5), .inl (.ofNat 2, .ofNat 5), .inl (.ofNat 0, .ofNat 5), .inl am_top, .inl am_top, .inl am_top, .inr (.inr (some 74)), .inl (v 0), .inl (v 1), .inl (.ofNat 0, .ofNat 160), .inl (.ofNat 1, .ofNat 1), .inl am_top, .inl (.ofNat 0, .ofNat 0), .inl am_top, .inr (.inr (some 75)), .inr (.inr (some 76)), .inr (.inr (some 77)), .inr (.inr (some 78)), .inr (.inr (some 79)), .inr (.inr (some 80)), .inr (.inr (some 81)), .inl (.negSucc 0, .ofNat 6), .inr (.inr (some 82)), .inr (.inr (some 83)), .inr (.inr (some 84)), .inr (.inr (some 85)), .inr (.inr (some 86)), .inl am_top, .inr (.inr (some 87))]))))])), fun v => (140, [(0, .inr (.inr (some 70))), (1, .inl am_top)], [], (80, [(62, .inr (.inr (.inr (7, [.inr (.inr (some 71)), .inr (.inr (some 72)), .inl (.ofNat 2, .ofNat 5), .inl (.ofNat 2, .ofNat 5), .inl (.ofNat 0, .ofNat 5), .inr (.inr (some 73)), .inl (.ofNat 2, .ofNat 5), .inl (.ofNat 2, .ofNat 5), .inl (.ofNat 0, .ofNat 5), .inl am_top, .inl am_top, .inl am_top, .inr (.inr (some 74)), .inl (v 0), .inl (v 1), .inl (.ofNat 0, .ofNat 160), .inl (.ofNat 2, .ofNat 2), .inl am_top, .inl (.ofNat 0, .ofNat 0), .inl am_top, .inr (.inr (some 75)), .inr (.inr (some 76)), .inr (.inr (some 77)), .inr (.inr (some 78)), .inr (.inr (some 79)), .inr (.inr (some 80)), .inr (.inr (some 81)), .inl (.negSucc 0, .ofNat 6), .inr (.inr (some 82)), .inr (.inr (some 83)), .inr (.inr (some 84)), .inr (.inr (some 85)), .inr (.inr (some 86)), .inl am_top, .inr (.inr (some 87))])))), (66, (fm_mod ab_30 (v 2) (v 3)))])), fun v => (140, [(0, .inr (.inr (some 70))), (1, .inl am_top)], [], (80, [(62, .inr (.inr (.inr (7, [.inr (.inr (some 71)), .inr (.inr (some 72)), .inl (.ofNat 2, .ofNat 5), .inl (.ofNat 2, .ofNat 5), .inl (.ofNat 0, .ofNat 5), .inr (.inr (some 73)), .inl (.ofNat 2, .ofNat 5), .inl (.ofNat 2, .ofNat 5), .inl (.ofNat 0, .ofNat 5), .inl am_top, .inl am_top, .inl am_top, .inr (.inr (some 74)), .inl (v 0), .inl (v 1), .inl (.ofNat 0, .ofNat 160), .inl (.ofNat 2, .ofNat 2), .inl am_top, .inl (.ofNat 0, .ofNat 0), .inl am_top, .inr (.inr (some 75)), .inr (.inr (some 76)), .inr (.inr (some 77)), .inr (.inr (some 78)), .inr (.inr (some 79)), .inr (.inr (some 80)), .inr (.inr (some 81)), .inl (.negSucc 0, .ofNat 6), .inr (.inr (some 82)), .inr (.inr (some 83)), .inr (.inr (some 84)), .inr (.inr (some 85)), .inr (.inr (some 86)), .inl am_top, .inr (.inr (some 87))]))))])), fun v => (8, [(0, .inr (.inr (some 70)))], [], (80, [(62, .inr (.inr (.inr (7, [.inr (.inr (some 71)), .inr (.inr (some 72)), .inl (.ofNat 2, .ofNat 5), .inl (.ofNat 2, .ofNat 5), .inl (.ofNat 0, .ofNat 5), .inr (.inr (some 73)), .inl (.ofNat 2, .ofNat 5), .inl (.ofNat 2, .ofNat 5), .inl (.ofNat 0, .ofNat 5), .inl am_top, .inl am_top, .inl am_top, .inr (.inr (some 74)), .inl (v 0), .inl (v 1), .inl (.ofNat 0, .ofNat 160), .inl (.ofNat 0, .ofNat 3), .inl am_top, .inl (.ofNat 0, .ofNat 0), .inl am_top, .inr (.inr (some 75)), .inr (.inr (some 76)), .inr (.inr (some 77)), .inr (.inr (some 78)), .inr (.inr (some 79)), .inr (.inr (some 80)), .inr (.inr (some 81)), .inl (.negSucc 0, .ofNat 6), .inr (.inr (some 82)), .inr (.inr (some 83)), .inr (.inr (some 84)), .inr (.inr (some 85)), .inr (.inr (some 86)), .inl am_top, .inr (.inr (some 87))]))))]))]
noncomputable def vd_898_0_0 : List (List Nat) := [[2952153465842032443392, 15232677710212852848322145329321750147187354227485638656, 15136898200432669127613045041202414058935571715079405568, 15041118690652484045753707723436341926503333044846133248, 14945339180872298963894370405670269794071094374612860928, 14849559671092113882035033087904197661638855704379588608, 14753780161311928800175695770138125529206617034146316288, 14658000651531743718316358452372053396774378363913043968], [14562221141751558636457021134605981264342139693679771648, 14466441631971373554597683816839909131909901023446499328, 14370662122191188472738346499073836999477662353213227008, 14274882612411003390879009181307764867045423682979954688, 14179103102630818309019671863541692734613185012746682368, 14083323592850633227160334545775620602180946342513410048, 13987544083070448145300997228009548469748707672280137728, 13891764573290263063441659910243476337316469002046865408], [13795985063510077981582322592477404204884230331813593088, 13700205553729892899722985274711332072451991661580320768, 13604426043949707817863647956945259940019752991347048448, 13508646534169522736004310639179187807587514321113776128, 13412867024389337654144973321413115675155275650880503808, 13317087514609152572285636003647043542723036980647231488, 13221308004828967490426298685880971410290798310413959168, 13125528495048782408566961368114899277858559640180686848], [13029748985268597326707624050348827145426320969947414528, 12933969475488412244848286732582755012994082299714142208, 12838189965708227162988949414816682880561843629480869888, 12742410455928042081129612097050610748129604959247597568, 12646630946147856999270274779284538615697366289014325248, 12550851436367671917410937461518466483265127618781052928, 12455071926587486835551600143752394350832888948547780608, 12359292416807301753692262825986322218400650278314508288], [12263512907027116671832925508220250085968411608081235968, 12167733397246931589973588190454177953536172937847963648, 12071953887466746508114250872688105821103934267614691328, 11976174377686561426254913554922033688671695597381419008, 11880394867906376344395576237155961556239456927148146688, 11784615358126191262536238919389889423807218256914874368, 11688835848346006180676901601623817291374979586681602048, 11593056338565821098817564283857745158942740916448329728], [11497276828785636016958226966091673026510502246215057408, 11401497319005450935098889648325600894078263575981785088, 11305717809225265853239552330559528761646024905748512768, 11209938299445080771380215012793456629213786235515240448, 11114158789664895689520877695027384496781547565281968128, 11018379279884710607661540377261312364349308895048695808, 10922599770104525525802203059495240231917070224815423488, 10826820260324340443942865741729168099484831554582151168], [10731040750544155362083528423963095967052592884348878848, 10635261240763970280224191106197023834620354214115606528, 10539481730983785198364853788430951702188115543882334208, 10443702221203600116505516470664879569755876873649061888, 10347922711423415034646179152898807437323638203415789568, 10252143201643229952786841835132735304891399533182517248, 10156363691863044870927504517366663172459160862949244928, 10060584182082859789068167199600591040026922192715972608], [9964804672302674707208829881834518907594683522482700288, 9869025162522489625349492564068446775162444852249427968, 9773245652742304543490155246302374642730206182016155648, 9677466142962119461630817928536302510297967511782883328, 9581686633181934379771480610770230377865728841549611008, 9485907123401749297912143293004158245433490171316338688, 9390127613621564216052805975238086113001251501083066368, 9294348103841379134193468657472013980569012830849794048]]
noncomputable def vd_898_0_1 : List (List Nat) := [[9198568594061194052334131339705941848136774160616521728, 9102789084281008970474794021939869715704535490383249408, 9007009574500823888615456704173797583272296820149977088, 8911230064720638806756119386407725450840058149916704768, 8815450554940453724896782068641653318407819479683432448, 8719671045160268643037444750875581185975580809450160128, 8623891535380083561178107433109509053543342139216887808, 8528112025599898479318770115343436921111103468983615488], [8432332515819713397459432797577364788678864798750343168, 8336553006039528315600095479811292656246626128517070848, 8240773496259343233740758162045220523814387458283798528, 8144993986479158151881420844279148391382148788050526208, 8049214476698973070022083526513076258949910117817253888, 7953434966918787988162746208747004126517671447583981568, 7857655457138602906303408890980931994085432777350709248, 7761875947358417824444071573214859861653194107117436928], [7666096437578232742584734255448787729220955436884164608, 7570316927798047660725396937682715596788716766650892288, 7474537418017862578866059619916643464356478096417619968, 7378757908237677497006722302150571331924239426184347648, 7282978398457492415147384984384499199492000755951075328, 7187198888677307333288047666618427067059762085717803008, 7091419378897122251428710348852354934627523415484530688, 6995639869116937169569373031086282802195284745251258368], [6899860359336752087710035713320210669763046075017986048, 6804080849556567005850698395554138537330807404784713728, 6708301339776381923991361077788066404898568734551441408, 6612521829996196842132023760021994272466330064318169088, 6516742320216011760272686442255922140034091394084896768, 6420962810435826678413349124489850007601852723851624448, 6325183300655641596554011806723777875169614053618352128, 6229403790875456514694674488957705742737375383385079808], [6133624281095271432835337171191633610305136713151807488, 6037844771315086350975999853425561477872898042918535168, 5942065261534901269116662535659489345440659372685262848, 5846285751754716187257325217893417213008420702451990528, 5750506241974531105397987900127345080576182032218718208, 5654726732194346023538650582361272948143943361985445888, 5558947222414160941679313264595200815711704691752173568, 5463167712633975859819975946829128683279466021518901248], [5367388202853790777960638629063056550847227351285628928, 5271608693073605696101301311296984418414988681052356608, 5175829183293420614241963993530912285982750010819084288, 5080049673513235532382626675764840153550511340585811968, 4984270163733050450523289357998768021118272670352539648, 4888490653952865368663952040232695888686034000119267328, 4792711144172680286804614722466623756253795329885995008, 4696931634392495204945277404700551623821556659652722688], [4601152124612310123085940086934479491389317989419450368, 4505372614832125041226602769168407358957079319186178048, 4409593105051939959367265451402335226524840648952905728, 4313813595271754877507928133636263094092601978719633408, 4218034085491569795648590815870190961660363308486361088, 4122254575711384713789253498104118829228124638253088768, 4026475065931199631929916180338046696795885968019816448, 3930695556151014550070578862571974564363647297786544128], [3834916046370829468211241544805902431931408627553271808, 3739136536590644386351904227039830299499169957319999488, 3643357026810459304492566909273758167066931287086727168, 3547577517030274222633229591507686034634692616853454848, 3451798007250089140773892273741613902202453946620182528, 3356018497469904058914554955975541769770215276386910208, 3260238987689718977055217638209469637337976606153637888, 3164459477909533895195880320443397504905737935920365568]]
noncomputable def vd_898_0_2 : List (List Nat) := [[3068679968129348813336543002677325372473499265687093248, 2972900458349163731477205684911253240041260595453820928, 2877120948568978649617868367145181107609021925220548608, 2781341438788793567758531049379108975176783254987276288, 2685561929008608485899193731613036842744544584754003968, 2589782419228423404039856413846964710312305914520731648, 2494002909448238322180519096080892577880067244287459328, 2398223399668053240321181778314820445447828574054187008], [2302443889887868158461844460548748313015589903820914688, 2206664380107683076602507142782676180583351233587642368, 2110884870327497994743169825016604048151112563354370048, 2015105360547312912883832507250531915718873893121097728, 1919325850767127831024495189484459783286635222887825408, 1823546340986942749165157871718387650854396552654553088, 1727766831206757667305820553952315518422157882421280768, 1631987321426572585446483236186243385989919212188008448], [1536207811646387503587145918420171253557680541954736128, 1440428301866202421727808600654099121125441871721463808, 1344648792086017339868471282888026988693203201488191488, 1248869282305832258009133965121954856260964531254919168, 1153089772525647176149796647355882723828725861021646848, 1057310262745462094290459329589810591396487190788374528, 961530752965277012431122011823738458964248520555102208, 865751243185091930571784694057666326532009850321829888], [769971733404906848712447376291594194099771180088557568, 674192223624721766853110058525522061667532509855285248, 578412713844536684993772740759449929235293839622012928, 482633204064351603134435422993377796803055169388740608, 386853694284166521275098105227305664370816499155468288, 291074184503981439415760787461233531938577828922195968, 195294674723796357556423469695161399506339158688923648, 99515164943611275697086151929089267074100488455651328], [3735655163426193837748834163017134641861818222379008, 202665639711488895295800874106881, 13287087660990671069734136586092675073, 3739982689929793844387326729005769922140710503448578, 202665640920433163343353618628610, 215659059572772514708694826483714, 19213200435292667907, 202824096036517423970987962007553], [13297472254707740724991197578751115265, 3742905693204455650223734098671202488180022368534532, 228256337412540544386068314587140, 219303555048428674237997848199172, 19213200435292667909, 202982552361545952646175049908225, 862718293349065389085239893064780789458270021429887140314818700902401, 202665640920433163343353618694145], [13287087740220042620498553251068706817, 3739982712230879356438651960213917340579481753026562, 202665642129377429983531479662594, 215659060781716781348872687517698, 37660225983978995715, 202824097245461692018540706594817, 13297472333937112275755614243727147009, 3742905715505541162275059329879349906618793618112516], [228256338621484811026246175621124, 219303556257372940878175709233156, 37660225983978995717, 202982553570490220693727794495489, 862718704731482395784580554270016479418009893000946870493140375109633, 202665642129377429983531479728129, 13287087819449414079029249547496980481, 3739982734531964842528492898747926616365771356504066]]
noncomputable def vd_898_0_3 : List (List Nat) := [[202665643338321696623709340696578, 215659061990661047989050548551682, 56107251532665323523, 202824098454405958658718567628801, 13297472413166483734286310540155420673, 3742905737806626648364900268413359182405083221590020, 228256339830429077666424036655108, 219303557466317207518353570267140], [56107251532665323525, 202982554779434487333905655529473, 862719116113898923579064694884983932394303780100386719815486366941185, 202665643338321696623709340762113, 13287087898678785537559945843925254145, 3739982756833050328618333837281935892152060959981570, 202665644547265963263887201730562, 215659063199605314629228409585666], [74554277081351651331, 202824099663350225298896428662785, 13297472492395855192817006836583694337, 3742905760107712134454741206947368458191372825067524, 228256341039373344306601897689092, 219303558675261474158531431301124, 74554277081351651333, 202982555988378753974083516563457], [862719527496315451373548835499951385370597667199826569137832358772737, 202665644547265963263887201796097, 13287087977908156996090642140353527809, 3739982779134135814708174775815945167938350563459074, 202665645756210229904065062764546, 215659064408549581269406270619650, 93001302630037979139, 202824100872294491939074289696769], [13297472571625226651347703133011968001, 3742905782408797620544582145481377733977662428545028, 228256342248317610946779758723076, 219303559884205740798709292335108, 93001302630037979141, 202982557197323020614261377597441, 862719938878731979168032976114918838346891554299266418460178350604289, 202665645756210229904065062830081], [13287088057137528454621338436781801473, 3739982801435221300798015714349954443724640166936578, 202665646965154496544242923798530, 215659065617493847909584131653634, 111448328178724306947, 202824102081238758579252150730753, 13297472650854598109878399429440241665, 3742905804709883106634423084015387009763952032022532], [228256343457261877586957619757060, 219303561093150007438887153369092, 111448328178724306949, 202982558406267287254439238631425, 862720350261148506962517116729886291323185441398706267782524342435841, 202665646965154496544242923864065, 13287088136366899913152034733210075137, 3739982823736306786887856652883963719510929770414082], [202665648174098763184420784832514, 215659066826438114549761992687618, 129895353727410634755, 202824103290183025219430011764737, 13297472730083969568409095725868515329, 3742905827010968592724264022549396285550241635500036, 228256344666206144227135480791044, 219303562302094274079065014403076]]
noncomputable def vd_898_0_4 : List (List Nat) := [[129895353727410634757, 202982559615211553894617099665409, 862720761643565034757001257344853744299479328498146117104870334267393, 202665648174098763184420784898049, 13287088215596271371682731029638348801, 3739982846037392272977697591417972995297219373891586, 202665649383043029824598645866498, 215659068035382381189939853721602], [148342379276096962563, 202824104499127291859607872798721, 13297472809313341026939792022296788993, 3742905849312054078814104961083405561336531238977540, 228256345875150410867313341825028, 219303563511038540719242875437060, 148342379276096962565, 202982560824155820534794960699393], [862721173025981562551485397959821197275773215597585966427216326098945, 202665649383043029824598645932033, 13287088294825642830213427326066622465, 3739982868338477759067538529951982271083508977369090, 202665650591987296464776506900482, 215659069244326647830117714755586, 166789404824783290371, 202824105708071558499785733832705], [13297472888542712485470488318725062657, 3742905871613139564903945899617414837122820842455044, 228256347084094677507491202859012, 219303564719982807359420736471044, 166789404824783290373, 202982562033100087174972821733377, 862721584408398090345969538574788650252067102697025815749562317930497, 202665650591987296464776506966017], [13287088374055014288744123622494896129, 3739982890639563245157379468485991546869798580846594, 202665651800931563104954367934466, 215659070453270914470295575789570, 185236430373469618179, 202824106917015825139963594866689, 13297472967772083944001184615153336321, 3742905893914225050993786838151424112909110445932548], [228256348293038944147669063892996, 219303565928927073999598597505028, 185236430373469618181, 202982563242044353815150682767361, 862721995790814618140453679189756103228360989796465665071908309762049, 202665651800931563104954368000001, 13287088453284385747274819918923169793, 3739982912940648731247220407020000822656088184324098], [202665653009875829745132228968450, 215659071662215181110473436823554, 203683455922155945987, 202824108125960091780141455900673, 13297473047001455402531880911581609985, 3742905916215310537083627776685433388695400049410052, 228256349501983210787846924926980, 219303567137871340639776458539012], [203683455922155945989, 202982564450988620455328543801345, 862722407173231145934937819804723556204654876895905514394254301593601, 202665653009875829745132229033985, 13287088532513757205805516215351443457, 3739982935241734217337061345554010098442377787801602, 202665654218820096385310090002434, 215659072871159447750651297857538]]
noncomputable def vd_898_0_5 : List (List Nat) := [[222130481470842273795, 202824109334904358420319316934657, 13297473126230826861062577208009883649, 3742905938516396023173468715219442664481689652887556, 228256350710927477428024785960964, 219303568346815607279954319572996, 222130481470842273797, 202982565659932887095506404835329], [862722818555647673729421960419691009180948763995345363716600293425153, 202665654218820096385310090067969, 13287088611743128664336212511779717121, 3739982957542819703426902284088019374228667391279106, 202665655427764363025487951036418, 215659074080103714390829158891522, 240577507019528601603, 202824110543848625060497177968641], [13297473205460198319593273504438157313, 3742905960817481509263309653753451940267979256365060, 228256351919871744068202646994948, 219303569555759873920132180606980, 240577507019528601605, 202982566868877153735684265869313, 862723229938064201523906101034658462157242651094785213038946285256705, 202665655427764363025487951101953], [13287088690972500122866908808207990785, 3739982979843905189516743222622028650014956994756610, 202665656636708629665665812070402, 215659075289047981031007019925506, 259024532568214929411, 202824111752792891700675039002625, 13297473284689569778123969800866430977, 3742905983118566995353150592287461216054268859842564], [228256353128816010708380508028932, 219303570764704140560310041640964, 259024532568214929413, 202982568077821420375862126903297, 862723641320480729318390241649625915133536538194225062361292277088257, 202665656636708629665665812135937, 13287088770201871581397605104636264449, 3739983002144990675606584161156037925801246598234114], [202665657845652896305843673104386, 215659076497992247671184880959490, 277471558116901257219, 202824112961737158340852900036609, 13297473363918941236654666097294704641, 3742906005419652481442991530821470491840558463320068, 228256354337760277348558369062916, 219303571973648407200487902674948], [277471558116901257221, 202982569286765687016039987937281, 862724052702897257112874382264593368109830425293664911683638268919809, 202665657845652896305843673169921, 13287088849431243039928301401064538113, 3739983024446076161696425099690047201587536201711618, 202665659054597162946021534138370, 215659077706936514311362741993474], [295918583665587585027, 202824114170681424981030761070593, 13297473443148312695185362393722978305, 3742906027720737967532832469355479767626848066797572, 228256355546704543988736230096900, 219303573182592673840665763708932, 295918583665587585029, 202982570495709953656217848971265]]
noncomputable def vd_898_0_6 : List (List Nat) := [[862724464085313784907358522879560821086124312393104761005984260751361, 202665659054597162946021534203905, 13287088928660614498458997697492811777, 3739983046747161647786266038224056477373825805189122, 202665660263541429586199395172354, 215659078915880780951540603027458, 314365609214273912835, 202824115379625691621208622104577], [13297473522377684153716058690151251969, 3742906050021823453622673407889489043413137670275076, 228256356755648810628914091130884, 219303574391536940480843624742916, 314365609214273912837, 202982571704654220296395710005249, 862724875467730312701842663494528274062418199492544610328330252582913, 202665660263541429586199395237889], [13287089007889985956989693993921085441, 3739983069048247133876106976758065753160115408666626, 202665661472485696226377256206338, 215659080124825047591718464061442, 332812634762960240643, 202824116588569958261386483138561, 13297473601607055612246754986579525633, 3742906072322908939712514346423498319199427273752580], [228256357964593077269091952164868, 219303575600481207121021485776900, 332812634762960240645, 202982572913598486936573571039233, 862725286850146840496326804109495727038712086591984459650676244414465, 202665661472485696226377256271873, 13287089087119357415520390290349359105, 3739983091349332619965947915292075028946405012144130], [202665662681429962866555117240322, 215659081333769314231896325095426, 351259660311646568451, 202824117797514224901564344172545, 13297473680836427070777451283007799297, 3742906094623994425802355284957507594985716877230084, 228256359173537343909269813198852, 219303576809425473761199346810884], [351259660311646568453, 202982574122542753576751432073217, 862725698232563368290810944724463180015005973691424308973022236246017, 202665662681429962866555117305857, 13287089166348728874051086586777632769, 3739983113650418106055788853826084304732694615621634, 202665663890374229506732978274306, 215659082542713580872074186129410], [369706685860332896259, 202824119006458491541742205206529, 13297473760065798529308147579436072961, 3742906116925079911892196223491516870772006480707588, 228256360382481610549447674232836, 219303578018369740401377207844868, 369706685860332896261, 202982575331487020216929293107201], [862726109614979896085295085339430632991299860790864158295368228077569, 202665663890374229506732978339841, 13287089245578100332581782883205906433, 3739983135951503592145629792360093580518984219099138, 202665665099318496146910839308290, 215659083751657847512252047163394, 388153711409019224067, 202824120215402758181920066240513]]
noncomputable def vd_898_0_7 : List (List Nat) := [[13297473839295169987838843875864346625, 3742906139226165397982037162025526146558296084185092, 228256361591425877189625535266820, 219303579227314007041555068878852, 388153711409019224069, 202982576540431286857107154141185, 862726520997396423879779225954398085967593747890304007617714219909121, 202665665099318496146910839373825], [13287089324807471791112479179634180097, 3739983158252589078235470730894102856305273822576642, 202665666308262762787088700342274, 215659084960602114152429908197378, 406600736957705551875, 202824121424347024822097927274497, 13297473918524541446369540172292620289, 3742906161527250884071878100559535422344585687662596], [228256362800370143829803396300804, 219303580436258273681732929912836, 406600736957705551877, 202982577749375553497285015175169, 862726932379812951674263366569365538943887634989743856940060211740673, 202665666308262762787088700407809, 13287089404036843249643175476062453761, 3739983180553674564325311669428112132091563426054146], [202665667517207029427266561376258, 215659086169546380792607769231362, 425047762506391879683, 202824122633291291462275788308481, 13297473997753912904900236468720893953, 3742906183828336370161719039093544698130875291140100, 228256364009314410469981257334788, 219303581645202540321910790946820], [425047762506391879685, 202982578958319820137462876209153, 862727343762229479468747507184332991920181522089183706262406203572225, 202665667517207029427266561441793, 13287089483266214708173871772490727425, 3739983202854760050415152607962121407877853029531650, 202665668726151296067444422410242, 215659087378490647432785630265346], [443494788055078207491, 202824123842235558102453649342465, 13297474076983284363430932765149167617, 3742906206129421856251559977627553973917164894617604, 228256365218258677110159118368772, 219303582854146806962088651980804, 443494788055078207493, 202982580167264086777640737243137], [862727755144646007263231647799300444896475409188623555584752195403777, 202665668726151296067444422475777, 13287089562495586166704568068919001089, 3739983225155845536504993546496130683664142633009154, 202665669935095562707622283444226, 215659088587434914072963491299330, 461941813603764535299, 202824125051179824742631510376449], [13297474156212655821961629061577441281, 3742906228430507342341400916161563249703454498095108, 228256366427202943750336979402756, 219303584063091073602266513014788, 461941813603764535301, 202982581376208353417818598277121, 862728166527062535057715788414267897872769296288063404907098187235329, 202665669935095562707622283509761]]
noncomputable def vd_898_0 : List (List (List Nat)) := [vd_898_0_0, vd_898_0_1, vd_898_0_2, vd_898_0_3, vd_898_0_4, vd_898_0_5, vd_898_0_6, vd_898_0_7]
noncomputable def vd_898_1_0 : List (List Nat) := [[13287089641724957625235264365347274753, 3739983247456931022594834485030139959450432236486658, 202665671144039829347800144478210, 215659089796379180713141352333314, 480388839152450863107, 202824126260124091382809371410433, 13297474235442027280492325358005714945, 3742906250731592828431241854695572525489744101572612], [228256367636147210390514840436740, 219303585272035340242444374048772, 480388839152450863109, 202982582585152620057996459311105, 862728577909479062852199929029235350849063183387503254229444179066881, 202665671144039829347800144543745, 13287089720954329083765960661775548417, 3739983269758016508684675423564149235236721839964162], [202665672352984095987978005512194, 215659091005323447353319213367298, 498835864701137190915, 202824127469068358022987232444417, 13297474314671398739023021654433988609, 3742906273032678314521082793229581801276033705050116, 228256368845091477030692701470724, 219303586480979606882622235082756], [498835864701137190917, 202982583794096886698174320345089, 862728989291895590646684069644202803825357070486943103551790170898433, 202665672352984095987978005577729, 13287089800183700542296656958203822081, 3739983292059101994774516362098158511023011443441666, 202665673561928362628155866546178, 215659092214267713993497074401282], [517282890249823518723, 202824128678012624663165093478401, 13297474393900770197553717950862262273, 3742906295333763800610923731763591077062323308527620, 228256370054035743670870562504708, 219303587689923873522800096116740, 517282890249823518725, 202982585003041153338352181379073], [862729400674312118441168210259170256801650957586382952874136162729985, 202665673561928362628155866611713, 13287089879413072000827353254632095745, 3739983314360187480864357300632167786809301046919170, 202665674770872629268333727580162, 215659093423211980633674935435266, 535729915798509846531, 202824129886956891303342954512385], [13297474473130141656084414247290535937, 3742906317634849286700764670297600352848612912005124, 228256371262980010311048423538692, 219303588898868140162977957150724, 535729915798509846533, 202982586211985419978530042413057, 862729812056728646235652350874137709777944844685822802196482154561537, 202665674770872629268333727645697], [13287089958642443459358049551060369409, 3739983336661272966954198239166177062595590650396674, 202665675979816895908511588614146, 215659094632156247273852796469250, 554176941347196174339, 202824131095901157943520815546369, 13297474552359513114615110543718809601, 3742906339935934772790605608831609628634902515482628]]
noncomputable def vd_898_1_1 : List (List Nat) := [[228256372471924276951226284572676, 219303590107812406803155818184708, 554176941347196174341, 202982587420929686618707903447041, 862730223439145174030136491489105162754238731785262651518828146393089, 202665675979816895908511588679681, 13287090037871814917888745847488643073, 3739983358962358453044039177700186338381880253874178], [202665677188761162548689449648130, 215659095841100513914030657503234, 572614959696627761155, 202824132304845424583698676580353, 13297474631588884573145806840147083265, 3742906362237020258880446547365618904421192118960132, 228256373680868543591404145606660, 219303591316756673443333679218692], [572614959696627761157, 202982588629873953258885764481025, 862730634821561701824620632104072615730532618884702500841174138224641, 202665677188761162548689449713665, 13287090117101186376419442143916916737, 3739983381263443939133880116234195614168169857351682, 202665678397705429188867310682114, 215659097050044780554208518537218], [591070710969592119299, 202824133513789691223876537614337, 13297474710818256031676503136575356929, 3742906384538105744970287485899628180207481722437636, 228256374889812810231582006640644, 219303592525700940083511540252676, 591070710969592119301, 202982589838818219899063625515009], [862731046203978229619104772719040068706826505984142350163520130056193, 202665678397705429188867310747649, 13287090196330557834950138440345190401, 3739983403564529425223721054768204889954459460829186, 202665679606649695829045171716098, 215659098258989047194386379571202, 609517736518278447107, 202824134722733957864054398648321], [13297474790047627490207199433003630593, 3742906406839191231060128424433637455993771325915140, 228256376098757076871759867674628, 219303593734645206723689401286660, 609517736518278447109, 202982591047762486539241486548993, 862731457586394757413588913334007521683120393083582199485866121887745, 202665679606649695829045171781633], [13287090275559929293480834736773464065, 3739983425865614911313561993302214165740749064306690, 202665680815593962469223032750082, 215659099467933313834564240605186, 627964762066964774915, 202824135931678224504232259682305, 13297474869276998948737895729431904257, 3742906429140276717149969362967646731780060929392644], [228256377307701343511937728708612, 219303594943589473363867262320644, 627964762066964774917, 202982592256706753179419347582977, 862731868968811285208073053948974974659414280183022048808212113719297, 202665680815593962469223032815617, 13287090354789300752011531033201737729, 3739983448166700397403402931836223441527038667784194]]
noncomputable def vd_898_1_2 : List (List Nat) := [[202665682024538229109400893784066, 215659100676877580474742101639170, 646411787615651102723, 202824137140622491144410120716289, 13297474948506370407268592025860177921, 3742906451441362203239810301501656007566350532870148, 228256378516645610152115589742596, 219303596152533740004045123354628], [646411787615651102725, 202982593465651019819597208616961, 862732280351227813002557194563942427635708167282461898130558105550849, 202665682024538229109400893849601, 13287090434018672210542227329630011393, 3739983470467785883493243870370232717313328271261698, 202665683233482495749578754818050, 215659101885821847114919962673154], [664858813164337430531, 202824138349566757784587981750273, 13297475027735741865799288322288451585, 3742906473742447689329651240035665283352640136347652, 228256379725589876792293450776580, 219303597361478006644222984388612, 664858813164337430533, 202982594674595286459775069650945], [862732691733644340797041335178909880612002054381901747452904097382401, 202665683233482495749578754883585, 13287090513248043669072923626058285057, 3739983492768871369583084808904241993099617874739202, 202665684442426762389756615852034, 215659103094766113755097823707138, 683305838713023758339, 202824139558511024424765842784257], [13297475106965113324329984618716725249, 3742906496043533175419492178569674559138929739825156, 228256380934534143432471311810564, 219303598570422273284400845422596, 683305838713023758341, 202982595883539553099952930684929, 862733103116060868591525475793877333588295941481341596775250089213953, 202665684442426762389756615917569], [13287090592477415127603619922486558721, 3739983515069956855672925747438251268885907478216706, 202665685651371029029934476886018, 215659104303710380395275684741122, 701752864261710086147, 202824140767455291064943703818241, 13297475186194484782860680915144998913, 3742906518344618661509333117103683834925219343302660], [228256382143478410072649172844548, 219303599779366539924578706456580, 701752864261710086149, 202982597092483819740130791718913, 862733514498477396386009616408844786564589828580781446097596081045505, 202665685651371029029934476951553, 13287090671706786586134316218914832385, 3739983537371042341762766685972260544672197081694210], [202665686860315295670112337920002, 215659105512654647035453545775106, 720199889810396413955, 202824141976399557705121564852225, 13297475265423856241391377211573272577, 3742906540645704147599174055637693110711508946780164, 228256383352422676712827033878532, 219303600988310806564756567490564]]
noncomputable def vd_898_1_3 : List (List Nat) := [[720199889810396413957, 202982598301428086380308652752897, 862733925880893924180493757023812239540883715680221295419942072877057, 202665686860315295670112337985537, 13287090750936158044665012515343106049, 3739983559672127827852607624506269820458486685171714, 202665688069259562310290198953986, 215659106721598913675631406809090], [738646915359082741763, 202824143185343824345299425886209, 13297475344653227699922073508001546241, 3742906562946789633689014994171702386497798550257668, 228256384561366943353004894912516, 219303602197255073204934428524548, 738646915359082741765, 202982599510372353020486513786881], [862734337263310451974977897638779692517177602779661144742288064708609, 202665688069259562310290199019521, 13287090830165529503195708811771379713, 3739983581973213313942448563040279096244776288649218, 202665689278203828950468059987970, 215659107930543180315809267843074, 757093940907769069571, 202824144394288090985477286920193], [13297475423882599158452769804429819905, 3742906585247875119778855932705711662284088153735172, 228256385770311209993182755946500, 219303603406199339845112289558532, 757093940907769069573, 202982600719316619660664374820865, 862734748645726979769462038253747145493471489879100994064634056540161, 202665689278203828950468060053505], [13287090909394900961726405108199653377, 3739983604274298800032289501574288372031065892126722, 202665690487148095590645921021954, 215659109139487446955987128877058, 775540966456455397379, 202824145603232357625655147954177, 13297475503111970616983466100858093569, 3742906607548960605868696871239720938070377757212676], [228256386979255476633360616980484, 219303604615143606485290150592516, 775540966456455397381, 202982601928260886300842235854849, 862735160028143507563946178868714598469765376978540843386980048371713, 202665690487148095590645921087489, 13287090988624272420257101404627927041, 3739983626575384286122130440108297647817355495604226], [202665691696092362230823782055938, 215659110348431713596164989911042, 793987992005141725187, 202824146812176624265833008988161, 13297475582341342075514162397286367233, 3742906629850046091958537809773730213856667360690180, 228256388188199743273538478014468, 219303605824087873125468011626500], [793987992005141725189, 202982603137205152941020096888833, 862735571410560035358430319483682051446059264077980692709326040203265, 202665691696092362230823782121473, 13287091067853643878787797701056200705, 3739983648876469772211971378642306923603645099081730, 202665692905036628871001643089922, 215659111557375980236342850945026]]
noncomputable def vd_898_1_4 : List (List Nat) := [[812435017553828052995, 202824148021120890906010870022145, 13297475661570713534044858693714640897, 3742906652151131578048378748307739489642956964167684, 228256389397144009913716339048452, 219303607033032139765645872660484, 812435017553828052997, 202982604346149419581197957922817], [862735982792976563152914460098649504422353151177420542031672032034817, 202665692905036628871001643155457, 13287091147083015337318493997484474369, 3739983671177555258301812317176316199389934702559234, 202665694113980895511179504123906, 215659112766320246876520711979010, 830882043102514380803, 202824149230065157546188731056129], [13297475740800084992575554990142914561, 3742906674452217064138219686841748765429246567645188, 228256390606088276553894200082436, 219303608241976406405823733694468, 830882043102514380805, 202982605555093686221375818956801, 862736394175393090947398600713616957398647038276860391354018023866369, 202665694113980895511179504189441], [13287091226312386795849190293912748033, 3739983693478640744391653255710325475176224306036738, 202665695322925162151357365157890, 215659113975264513516698573012994, 849329068651200708611, 202824150439009424186366592090113, 13297475820029456451106251286571188225, 3742906696753302550228060625375758041215536171122692], [228256391815032543194072061116420, 219303609450920673046001594728452, 849329068651200708613, 202982606764037952861553679990785, 862736805557809618741882741328584410374940925376300240676364015697921, 202665695322925162151357365223425, 13287091305541758254379886590341021697, 3739983715779726230481494194244334750962513909514242], [202665696531869428791535226191874, 215659115184208780156876434046978, 867776094199887036419, 202824151647953690826544453124097, 13297475899258827909636947582999461889, 3742906719054388036317901563909767317001825774600196, 228256393023976809834249922150404, 219303610659864939686179455762436], [867776094199887036421, 202982607972982219501731541024769, 862737216940226146536366881943551863351234812475740089998710007529473, 202665696531869428791535226257409, 13287091384771129712910582886769295361, 3739983738080811716571335132778344026748803512991746, 202665697740813695431713087225858, 215659116393153046797054295080962], [886223119748573364227, 202824152856897957466722314158081, 13297475978488199368167643879427735553, 3742906741355473522407742502443776592788115378077700, 228256394232921076474427783184388, 219303611868809206326357316796420, 886223119748573364229, 202982609181926486141909402058753]]
noncomputable def vd_898_1_5 : List (List Nat) := [[862737628322642674330851022558519316327528699575179939321055999361025, 202665697740813695431713087291393, 13287091464000501171441279183197569025, 3739983760381897202661176071312353302535093116469250, 202665698949757962071890948259842, 215659117602097313437232156114946, 904670145297259692035, 202824154065842224106900175192065], [13297476057717570826698340175856009217, 3742906763656559008497583440977785868574404981555204, 228256395441865343114605644218372, 219303613077753472966535177830404, 904670145297259692037, 202982610390870752782087263092737, 862738039705059202125335163173486769303822586674619788643401991192577, 202665698949757962071890948325377], [13287091543229872629971975479625842689, 3739983782682982688751017009846362578321382719946754, 202665700158702228712068809293826, 215659118811041580077410017148930, 923117170845946019843, 202824155274786490747078036226049, 13297476136946942285229036472284282881, 3742906785957644494587424379511795144360694585032708], [228256396650809609754783505252356, 219303614286697739606713038864388, 923117170845946019845, 202982611599815019422265124126721, 862738451087475729919819303788454222280116473774059637965747983024129, 202665700158702228712068809359361, 13287091622459244088502671776054116353, 3739983804984068174840857948380371854107672323424258], [202665701367646495352246670327810, 215659120019985846717587878182914, 941564196394632347651, 202824156483730757387255897260033, 13297476216176313743759732768712556545, 3742906808258729980677265318045804420146984188510212, 228256397859753876394961366286340, 219303615495642006246890899898372], [941564196394632347653, 202982612808759286062442985160705, 862738862469892257714303444403421675256410360873499487288093974855681, 202665701367646495352246670393345, 13287091701688615547033368072482390017, 3739983827285153660930698886914381129893961926901762, 202665702576590761992424531361794, 215659121228930113357765739216898], [960011221943318675459, 202824157692675024027433758294017, 13297476295405685202290429065140830209, 3742906830559815466767106256579813695933273791987716, 228256399068698143035139227320324, 219303616704586272887068760932356, 960011221943318675461, 202982614017703552702620846194689], [862739273852308785508787585018389128232704247972939336610439966687233, 202665702576590761992424531427329, 13287091780917987005564064368910663681, 3739983849586239147020539825448390405680251530379266, 202665703785535028632602392395778, 215659122437874379997943600250882, 978458247492005003267, 202824158901619290667611619328001]]
noncomputable def vd_898_1_6 : List (List Nat) := [[13297476374635056660821125361569103873, 3742906852860900952856947195113822971719563395465220, 228256400277642409675317088354308, 219303617913530539527246621966340, 978458247492005003269, 202982615226647819342798707228673, 862739685234725313303271725633356581208998135072379185932785958518785, 202665703785535028632602392461313], [13287091860147358464094760665338937345, 3739983871887324633110380763982399681466541133856770, 202665704994479295272780253429762, 215659123646818646638121461284866, 996905273040691331075, 202824160110563557307789480361985, 13297476453864428119351821657997377537, 3742906875161986438946788133647832247505852998942724], [228256401486586676315494949388292, 219303619122474806167424483000324, 996905273040691331077, 202982616435592085982976568262657, 862740096617141841097755866248324034185292022171819035255131950350337, 202665704994479295272780253495297, 13287091939376729922625456961767211009, 3739983894188410119200221702516408957252830737334274], [202665706203423561912958114463746, 215659124855762913278299322318850, 1015352298589377658883, 202824161319507823947967341395969, 13297476533093799577882517954425651201, 3742906897463071925036629072181841523292142602420228, 228256402695530942955672810422276, 219303620331419072807602344034308], [1015352298589377658885, 202982617644536352623154429296641, 862740507999558368892240006863291487161585909271258884577477942181889, 202665706203423561912958114529281, 13287092018606101381156153258195484673, 3739983916489495605290062641050418233039120340811778, 202665707412367828553135975497730, 215659126064707179918477183352834], [1033799324138063986691, 202824162528452090588145202429953, 13297476612323171036413214250853924865, 3742906919764157411126470010715850799078432205897732, 228256403904475209595850671456260, 219303621540363339447780205068292, 1033799324138063986693, 202982618853480619263332290330625], [862740919381974896686724147478258940137879796370698733899823934013441, 202665707412367828553135975563265, 13287092097835472839686849554623758337, 3739983938790581091379903579584427508825409944289282, 202665708621312095193313836531714, 215659127273651446558655044386818, 1052246349686750314499, 202824163737396357228323063463937], [13297476691552542494943910547282198529, 3742906942065242897216310949249860074864721809375236, 228256405113419476236028532490244, 219303622749307606087958066102276, 1052246349686750314501, 202982620062424885903510151364609, 862741330764391424481208288093226393114173683470138583222169925844993, 202665708621312095193313836597249]]
noncomputable def vd_898_1_7 : List (List Nat) := [[13287092177064844298217545851052032001, 3739983961091666577469744518118436784611699547766786, 202665709830256361833491697565698, 215659128482595713198832905420802, 1070693375235436642307, 202824164946340623868500924497921, 13297476770781913953474606843710472193, 3742906964366328383306151887783869350651011412852740], [228256406322363742876206393524228, 219303623958251872728135927136260, 1070693375235436642309, 202982621271369152543688012398593, 862741742146807952275692428708193846090467570569578432544515917676545, 202665709830256361833491697631233, 13287092256294215756748242147480305665, 3739983983392752063559585456652446060397989151244290], [202665711039200628473669558599682, 215659129691539979839010766454786, 1089140400784122970115, 202824166155284890508678785531905, 13297476850011285412005303140138745857, 3742906986667413869395992826317878626437301016330244, 228256407531308009516384254558212, 219303625167196139368313788170244], [1089140400784122970117, 202982622480313419183865873432577, 862742153529224480070176569323161299066761457669018281866861909508097, 202665711039200628473669558665217, 13287092335523587215278938443908579329, 3739984005693837549649426395186455336184278754721794, 202665712248144895113847419633666, 215659130900484246479188627488770], [1107587426332809297923, 202824167364229157148856646565889, 13297476929240656870535999436567019521, 3742907008968499355485833764851887902223590619807748, 228256408740252276156562115592196, 219303626376140406008491649204228, 1107587426332809297925, 202982623689257685824043734466561], [862742564911641007864660709938128752043055344768458131189207901339649, 202665712248144895113847419699201, 13287092414752958673809634740336852993, 3739984027994923035739267333720464611970568358199298, 202665713457089161754025280667650, 215659132109428513119366488522754, 1126034451881495625731, 202824168573173423789034507599873], [13297477008470028329066695732995293185, 3742907031269584841575674703385897178009880223285252, 228256409949196542796739976626180, 219303627585084672648669510238212, 1126034451881495625733, 202982624898201952464221595500545, 862742976294057535659144850553096205019349231867897980511553893171201, 202665713457089161754025280733185], [13287092493982330132340331036765126657, 3739984050296008521829108272254473887756857961676802, 202665714666033428394203141701634, 215659133318372779759544349556738, 1144481477430181953539, 202824169782117690429212368633857, 13297477087699399787597392029423566849, 3742907053570670327665515641919906453796169826762756]]
noncomputable def vd_898_1 : List (List (List Nat)) := [vd_898_1_0, vd_898_1_1, vd_898_1_2, vd_898_1_3, vd_898_1_4, vd_898_1_5, vd_898_1_6, vd_898_1_7]
noncomputable def vd_898_2_0 : List (List Nat) := [[228256411158140809436917837660164, 219303628794028939288847371272196, 1144481477430181953541, 202982626107146219104399456534529, 862743387676474063453628991168063657995643118967337829833899885002753, 202665714666033428394203141767169, 13287092573211701590871027333193400321, 3739984072597094007918949210788483163543147565154306], [202665715874977695034381002735618, 215659134527317046399722210590722, 1162928502978868281347, 202824170991061957069390229667841, 13297477166928771246128088325851840513, 3742907075871755813755356580453915729582459430240260, 228256412367085076077095698694148, 219303630002973205929025232306180], [1162928502978868281349, 202982627316090485744577317568513, 862743799058890591248113131783031110971937006066777679156245876834305, 202665715874977695034381002801153, 13287092652441073049401723629621673985, 3739984094898179494008790149322492439329437168631810, 202665717083921961674558863769602, 215659135736261313039900071624706], [1181375528527554609155, 202824172200006223709568090701825, 13297477246158142704658784622280114177, 3742907098172841299845197518987925005368749033717764, 228256413576029342717273559728132, 219303631211917472569203093340164, 1181375528527554609157, 202982628525034752384755178602497], [862744210441307119042597272397998563948230893166217528478591868665857, 202665717083921961674558863835137, 13287092731670444507932419926049947649, 3739984117199264980098631087856501715115726772109314, 202665718292866228314736724803586, 215659136945205579680077932658690, 1199822554076240936963, 202824173408950490349745951735809], [13297477325387514163189480918708387841, 3742907120473926785935038457521934281155038637195268, 228256414784973609357451420762116, 219303632420861739209380954374148, 1199822554076240936965, 202982629733979019024933039636481, 862744621823723646837081413012966016924524780265657377800937860497409, 202665718292866228314736724869121], [13287092810899815966463116222478221313, 3739984139500350466188472026390510990902016375586818, 202665719501810494954914585837570, 215659138154149846320255793692674, 1218269579624927264771, 202824174617894756989923812769793, 13297477404616885621720177215136661505, 3742907142775012272024879396055943556941328240672772], [228256415993917875997629281796100, 219303633629806005849558815408132, 1218269579624927264773, 202982630942923285665110900670465, 862745033206140174631565553627933469900818667365097227123283852328961, 202665719501810494954914585903105, 13287092890129187424993812518906494977, 3739984161801435952278312964924520266688305979064322]]
noncomputable def vd_898_2_1 : List (List Nat) := [[202665720710754761595092446871554, 215659139363094112960433654726658, 1236716605173613592579, 202824175826839023630101673803777, 13297477483846257080250873511564935169, 3742907165076097758114720334589952832727617844150276, 228256417202862142637807142830084, 219303634838750272489736676442116], [1236716605173613592581, 202982632151867552305288761704449, 862745444588556702426049694242900922877112554464537076445629844160513, 202665720710754761595092446937089, 13287092969358558883524508815334768641, 3739984184102521438368153903458529542474595582541826, 202665721919699028235270307905538, 215659140572038379600611515760642], [1255163630722299920387, 202824177035783290270279534837761, 13297477563075628538781569807993208833, 3742907187377183244204561273123962108513907447627780, 228256418411806409277985003864068, 219303636047694539129914537476100, 1255163630722299920389, 202982633360811818945466622738433], [862745855970973230220533834857868375853406441563976925767975835992065, 202665721919699028235270307971073, 13287093048587930342055205111763042305, 3739984206403606924457994841992538818260885186019330, 202665723128643294875448168939522, 215659141780982646240789376794626, 1273610656270986248195, 202824178244727556910457395871745], [13297477642304999997312266104421482497, 3742907209678268730294402211657971384300197051105284, 228256419620750675918162864898052, 219303637256638805770092398510084, 1273610656270986248197, 202982634569756085585644483772417, 862746267353389758015017975472835828829700328663416775090321827823617, 202665723128643294875448169005057], [13287093127817301800585901408191315969, 3739984228704692410547835780526548094047174789496834, 202665724337587561515626029973506, 215659142989926912880967237828610, 1292057681819672576003, 202824179453671823550635256905729, 13297477721534371455842962400849756161, 3742907231979354216384243150191980660086486654582788], [228256420829694942558340725932036, 219303638465583072410270259544068, 1292057681819672576005, 202982635778700352225822344806401, 862746678735806285809502116087803281805994215762856624412667819655169, 202665724337587561515626030039041, 13287093207046673259116597704619589633, 3739984251005777896637676719060557369833464392974338], [202665725546531828155803891007490, 215659144198871179521145098862594, 1310504707368358903811, 202824180662616090190813117939713, 13297477800763742914373658697278029825, 3742907254280439702474084088725989935872776258060292, 228256422038639209198518586966020, 219303639674527339050448120578052]]
noncomputable def vd_898_2_2 : List (List Nat) := [[1310504707368358903813, 202982636987644618866000205840385, 862747090118222813603986256702770734782288102862296473735013811486721, 202665725546531828155803891073025, 13287093286276044717647294001047863297, 3739984273306863382727517657594566645619753996451842, 202665726755476094795981752041474, 215659145407815446161322959896578], [1328951732917045231619, 202824181871560356830990978973697, 13297477879993114372904354993706303489, 3742907276581525188563925027259999211659065861537796, 228256423247583475838696448000004, 219303640883471605690625981612036, 1328951732917045231621, 202982638196588885506178066874369], [862747501500639341398470397317738187758581989961736323057359803318273, 202665726755476094795981752107009, 13287093365505416176177990297476136961, 3739984295607948868817358596128575921406043599929346, 202665727964420361436159613075458, 215659146616759712801500820930562, 1347398758465731559427, 202824183080504623471168840007681], [13297477959222485831435051290134577153, 3742907298882610674653765965794008487445355465015300, 228256424456527742478874309033988, 219303642092415872330803842646020, 1347398758465731559429, 202982639405533152146355927908353, 862747912883055869192954537932705640734875877061176172379705795149825, 202665727964420361436159613140993], [13287093444734787634708686593904410625, 3739984317909034354907199534662585197192333203406850, 202665729173364628076337474109442, 215659147825703979441678681964546, 1365845784014417887235, 202824184289448890111346701041665, 13297478038451857289965747586562850817, 3742907321183696160743606904328017763231645068492804], [228256425665472009119052170067972, 219303643301360138970981703680004, 1365845784014417887237, 202982640614477418786533788942337, 862748324265472396987438678547673093711169764160616021702051786981377, 202665729173364628076337474174977, 13287093523964159093239382890332684289, 3739984340210119840997040473196594472978622806884354], [202665730382308894716515335143426, 215659149034648246081856542998530, 1384292809563104215043, 202824185498393156751524562075649, 13297478117681228748496443882991124481, 3742907343484781646833447842862027039017934671970308, 228256426874416275759230031101956, 219303644510304405611159564713988], [1384292809563104215045, 202982641823421685426711649976321, 862748735647888924781922819162640546687463651260055871024397778812929, 202665730382308894716515335208961, 13287093603193530551770079186760957953, 3739984362511205327086881411730603748764912410361858, 202665731591253161356693196177410, 215659150243592512722034404032514]]
noncomputable def vd_898_2_3 : List (List Nat) := [[1402739835111790542851, 202824186707337423391702423109633, 13297478196910600207027140179419398145, 3742907365785867132923288781396036314804224275447812, 228256428083360542399407892135940, 219303645719248672251337425747972, 1402739835111790542853, 202982643032365952066889511010305], [862749147030305452576406959777607999663757538359495720346743770644481, 202665731591253161356693196242945, 13287093682422902010300775483189231617, 3739984384812290813176722350264613024551202013839362, 202665732800197427996871057211394, 215659151452536779362212265066498, 1421186860660476870659, 202824187916281690031880284143617], [13297478276139971665557836475847671809, 3742907388086952619013129719930045590590513878925316, 228256429292304809039585753169924, 219303646928192938891515286781956, 1421186860660476870661, 202982644241310218707067372044289, 862749558412721980370891100392575452640051425458935569669089762476033, 202665732800197427996871057276929], [13287093761652273468831471779617505281, 3739984407113376299266563288798622300337491617316866, 202665734009141694637048918245378, 215659152661481046002390126100482, 1439633886209163198467, 202824189125225956672058145177601, 13297478355369343124088532772275945473, 3742907410388038105102970658464054866376803482402820], [228256430501249075679763614203908, 219303648137137205531693147815940, 1439633886209163198469, 202982645450254485347245233078273, 862749969795138508165375241007542905616345312558375418991435754307585, 202665734009141694637048918310913, 13287093840881644927362168076045778945, 3739984429414461785356404227332631576123781220794370], [202665735218085961277226779279362, 215659153870425312642567987134466, 1458080911757849526275, 202824190334170223312236006211585, 13297478434598714582619229068704219137, 3742907432689123591192811596998064142163093085880324, 228256431710193342319941475237892, 219303649346081472171871008849924], [1458080911757849526277, 202982646659198751987423094112257, 862750381177555035959859381622510358592639199657815268313781746139137, 202665735218085961277226779344897, 13287093920111016385892864372474052609, 3739984451715547271446245165866640851910070824271874, 202665736427030227917404640313346, 215659155079369579282745848168450], [1476527937306535854083, 202824191543114489952413867245569, 13297478513828086041149925365132492801, 3742907454990209077282652535532073417949382689357828, 228256432919137608960119336271876, 219303650555025738812048869883908, 1476527937306535854085, 202982647868143018627600955146241]]
noncomputable def vd_898_2_4 : List (List Nat) := [[862750792559971563754343522237477811568933086757255117636127737970689, 202665736427030227917404640378881, 13287093999340387844423560668902326273, 3739984474016632757536086104400650127696360427749378, 202665737635974494557582501347330, 215659156288313845922923709202434, 1494974962855222181891, 202824192752058756592591728279553], [13297478593057457499680621661560766465, 3742907477291294563372493474066082693735672292835332, 228256434128081875600297197305860, 219303651763970005452226730917892, 1494974962855222181893, 202982649077087285267778816180225, 862751203942388091548827662852445264545226973856694966958473729802241, 202665737635974494557582501412865], [13287094078569759302954256965330599937, 3739984496317718243625927042934659403482650031226882, 202665738844918761197760362381314, 215659157497258112563101570236418, 1513421988403908509699, 202824193961003023232769589313537, 13297478672286828958211317957989040129, 3742907499592380049462334412600091969521961896312836], [228256435337026142240475058339844, 219303652972914272092404591951876, 1513421988403908509701, 202982650286031551907956677214209, 862751615324804619343311803467412717521520860956134816280819721633793, 202665738844918761197760362446849, 13287094157799130761484953261758873601, 3739984518618803729715767981468668679268939634704386], [202665740053863027837938223415298, 215659158706202379203279431270402, 1531869013952594837507, 202824195169947289872947450347521, 13297478751516200416742014254417313793, 3742907521893465535552175351134101245308251499790340, 228256436545970408880652919373828, 219303654181858538732582452985860], [1531869013952594837509, 202982651494975818548134538248193, 862752026707221147137795944082380170497814748055574665603165713465345, 202665740053863027837938223480833, 13287094237028502220015649558187147265, 3739984540919889215805608920002677955055229238181890, 202665741262807294478116084449282, 215659159915146645843457292304386], [1550316039501281165315, 202824196378891556513125311381505, 13297478830745571875272710550845587457, 3742907544194551021642016289668110521094541103267844, 228256437754914675520830780407812, 219303655390802805372760314019844, 1550316039501281165317, 202982652703920085188312399282177], [862752438089637674932280084697347623474108635155014514925511705296897, 202665741262807294478116084514817, 13287094316257873678546345854615420929, 3739984563220974701895449858536687230841518841659394, 202665742471751561118293945483266, 215659161124090912483635153338370, 1568763065049967493123, 202824197587835823153303172415489]]
noncomputable def vd_898_2_5 : List (List Nat) := [[13297478909974943333803406847273861121, 3742907566495636507731857228202119796880830706745348, 228256438963858942161008641441796, 219303656599747072012938175053828, 1568763065049967493125, 202982653912864351828490260316161, 862752849472054202726764225312315076450402522254454364247857697128449, 202665742471751561118293945548801], [13287094395487245137077042151043694593, 3739984585522060187985290797070696506627808445136898, 202665743680695827758471806517250, 215659162333035179123813014372354, 1587210090598653820931, 202824198796780089793481033449473, 13297478989204314792334103143702134785, 3742907588796721993821698166736129072667120310222852], [228256440172803208801186502475780, 219303657808691338653116036087812, 1587210090598653820933, 202982655121808618468668121350145, 862753260854470730521248365927282529426696409353894213570203688960001, 202665743680695827758471806582785, 13287094474716616595607738447471968257, 3739984607823145674075131735604705782414098048614402], [202665744889640094398649667551234, 215659163541979445763990875406338, 1605657116147340148739, 202824200005724356433658894483457, 13297479068433686250864799440130408449, 3742907611097807479911539105270138348453409913700356, 228256441381747475441364363509764, 219303659017635605293293897121796], [1605657116147340148741, 202982656330752885108845982384129, 862753672236887258315732506542249982402990296453334062892549680791553, 202665744889640094398649667616769, 13287094553945988054138434743900241921, 3739984630124231160164972674138715058200387652091906, 202665746098584361038827528585218, 215659164750923712404168736440322], [1624104141696026476547, 202824201214668623073836755517441, 13297479147663057709395495736558682113, 3742907633398892966001380043804147624239699517177860, 228256442590691742081542224543748, 219303660226579871933471758155780, 1624104141696026476549, 202982657539697151749023843418113], [862754083619303786110216647157217435379284183552773912214895672623105, 202665746098584361038827528650753, 13287094633175359512669131040328515585, 3739984652425316646254813612672724333986677255569410, 202665747307528627679005389619202, 215659165959867979044346597474306, 1642551167244712804355, 202824202423612889714014616551425], [13297479226892429167926192032986955777, 3742907655699978452091220982338156900025989120655364, 228256443799636008721720085577732, 219303661435524138573649619189764, 1642551167244712804357, 202982658748641418389201704452097, 862754495001720313904700787772184888355578070652213761537241664454657, 202665747307528627679005389684737]]
noncomputable def vd_898_2_6 : List (List Nat) := [[13287094712404730971199827336756789249, 3739984674726402132344654551206733609772966859046914, 202665748516472894319183250653186, 215659167168812245684524458508290, 1660998192793399132163, 202824203632557156354192477585409, 13297479306121800626456888329415229441, 3742907678001063938181061920872166175812278724132868], [228256445008580275361897946611716, 219303662644468405213827480223748, 1660998192793399132165, 202982659957585685029379565486081, 862754906384136841699184928387152341331871957751653610859587656286209, 202665748516472894319183250718721, 13287094791634102429730523633185062913, 3739984697027487618434495489740742885559256462524418], [202665749725417160959361111687170, 215659168377756512324702319542274, 1679445218342085459971, 202824204841501422994370338619393, 13297479385351172084987584625843503105, 3742907700302149424270902859406175451598568327610372, 228256446217524542002075807645700, 219303663853412671854005341257732], [1679445218342085459973, 202982661166529951669557426520065, 862755317766553369493669069002119794308165844851093460181933648117761, 202665749725417160959361111752705, 13287094870863473888261219929613336577, 3739984719328573104524336428274752161345546066001922, 202665750934361427599538972721154, 215659169586700778964880180576258], [1697892243890771787779, 202824206050445689634548199653377, 13297479464580543543518280922271776769, 3742907722603234910360743797940184727384857931087876, 228256447426468808642253668679684, 219303665062356938494183202291716, 1697892243890771787781, 202982662375474218309735287554049], [862755729148969897288153209617087247284459731950533309504279639949313, 202665750934361427599538972786689, 13287094950092845346791916226041610241, 3739984741629658590614177366808761437131835669479426, 202665752143305694239716833755138, 215659170795645045605058041610242, 1716339269439458115587, 202824207259389956274726060687361], [13297479543809915002048977218700050433, 3742907744904320396450584736474194003171147534565380, 228256448635413075282431529713668, 219303666271301205134361063325700, 1716339269439458115589, 202982663584418484949913148588033, 862756140531386425082637350232054700260753619049973158826625631780865, 202665752143305694239716833820673], [13287095029322216805322612522469883905, 3739984763930744076704018305342770712918125272956930, 202665753352249960879894694789122, 215659172004589312245235902644226, 1734786294988144443395, 202824208468334222914903921721345, 13297479623039286460579673515128324097, 3742907767205405882540425675008203278957437138042884]]
noncomputable def vd_898_2_7 : List (List Nat) := [[228256449844357341922609390747652, 219303667480245471774538924359684, 1734786294988144443397, 202982664793362751590091009622017, 862756551913802952877121490847022153237047506149413008148971623612417, 202665753352249960879894694854657, 13287095108551588263853308818898157569, 3739984786231829562793859243876779988704414876434434], [202665754561194227520072555823106, 215659173213533578885413763678210, 1753233320536830771203, 202824209677278489555081782755329, 13297479702268657919110369811556597761, 3742907789506491368630266613542212554743726741520388, 228256451053301608562787251781636, 219303668689189738414716785393668], [1753233320536830771205, 202982666002307018230268870656001, 862756963296219480671605631461989606213341393248852857471317615443969, 202665754561194227520072555888641, 13287095187780959722384005115326431233, 3739984808532915048883700182410789264490704479911938, 202665755770138494160250416857090, 215659174422477845525591624712194], [1771653605962729586691, 202824210886222756195259643789313, 13297479781498029377641066107984871425, 3742907811807576854720107552076221830530016344997892, 228256452262245875202965112815620, 219303669898134005054894646427652, 1771653605962729586693, 202982667211251284870446731689985], [862757374678636008466089772076957059189635280348292706793663607275521, 202665755770138494160250416922625, 13287095267010331180914701411754704897, 3739984830834000534973541120944798540276994083389442, 202665756979082760800428277891074, 215659175631422112165769485746178, 1790127090159226716163, 202824212095167022835437504823297], [13297479860727400836171762404413145089, 3742907834108662340809948490610231106316305948475396, 228256453471190141843142973849604, 219303671107078271695072507461636, 1790127090159226716165, 202982668420195551510624592723969, 862757786061052536260573912691924512165929167447732556116009599107073, 202665756979082760800428277956609], [13287095346239702639445397708182978561, 3739984853135086021063382059478807816063283686866946, 202665758188027027440606138925058, 215659176840366378805947346780162, 1808574115707913043971, 202824213304111289475615365857281, 13297479939956772294702458700841418753, 3742907856409747826899789429144240382102595551952900], [228256454680134408483320834883588, 219303672316022538335250368495620, 1808574115707913043973, 202982669629139818150802453757953, 862758197443469064055058053306891965142223054547172405438355590938625, 202665758188027027440606138990593, 13287095425469074097976094004611252225, 3739984875436171507153222998012817091849573290344450]]
noncomputable def vd_898_2 : List (List (List Nat)) := [vd_898_2_0, vd_898_2_1, vd_898_2_2, vd_898_2_3, vd_898_2_4, vd_898_2_5, vd_898_2_6, vd_898_2_7]
noncomputable def vd_898_3_0 : List (List Nat) := [[202665759396971294080783999959042, 215659178049310645446125207814146, 1827021141256599371779, 202824214513055556115793226891265, 13297480019186143753233154997269692417, 3742907878710833312989630367678249657888885155430404, 228256455889078675123498695917572, 219303673524966804975428229529604], [1827021141256599371781, 202982670838084084790980314791937, 862758608825885591849542193921859418118516941646612254760701582770177, 202665759396971294080784000024577, 13287095504698445556506790301039525889, 3739984897737256993243063936546826367635862893821954, 202665760605915560720961860993026, 215659179258254912086303068848130], [1845468166805285699587, 202824215721999822755971087925249, 13297480098415515211763851293697966081, 3742907901011918799079471306212258933675174758907908, 228256457098022941763676556951556, 219303674733911071615606090563588, 1845468166805285699589, 202982672047028351431158175825921], [862759020208302119644026334536826871094810828746052104083047574601729, 202665760605915560720961861058561, 13287095583927817015037486597467799553, 3739984920038342479332904875080835643422152497299458, 202665761814859827361139722027010, 215659180467199178726480929882114, 1863915192353972027395, 202824216930944089396148948959233], [13297480177644886670294547590126239745, 3742907923313004285169312244746268209461464362385412, 228256458306967208403854417985540, 219303675942855338255783951597572, 1863915192353972027397, 202982673255972618071336036859905, 862759431590718647438510475151794324071104715845491953405393566433281, 202665761814859827361139722092545], [13287095663157188473568182893896073217, 3739984942339427965422745813614844919208442100776962, 202665763023804094001317583060994, 215659181676143445366658790916098, 1882362217902658355203, 202824218139888356036326809993217, 13297480256874258128825243886554513409, 3742907945614089771259153183280277485247753965862916], [228256459515911475044032279019524, 219303677151799604895961812631556, 1882362217902658355205, 202982674464916884711513897893889, 862759842973135175232994615766761777047398602944931802727739558264833, 202665763023804094001317583126529, 13287095742386559932098879190324346881, 3739984964640513451512586752148854194994731704254466], [202665764232748360641495444094978, 215659182885087712006836651950082, 1900809243451344683011, 202824219348832622676504671027201, 13297480336103629587355940182982787073, 3742907967915175257348994121814286761034043569340420, 228256460724855741684210140053508, 219303678360743871536139673665540]]
noncomputable def vd_898_3_1 : List (List Nat) := [[1900809243451344683013, 202982675673861151351691758927873, 862760254355551703027478756381729230023692490044371652050085550096385, 202665764232748360641495444160513, 13287095821615931390629575486752620545, 3739984986941598937602427690682863470781021307731970, 202665765441692627281673305128962, 215659184094031978647014512984066], [1919256269000031010819, 202824220557776889316682532061185, 13297480415333001045886636479411060737, 3742907990216260743438835060348296036820333172817924, 228256461933800008324388001087492, 219303679569688138176317534699524, 1919256269000031010821, 202982676882805417991869619961857], [862760665737968230821962896996696682999986377143811501372431541927937, 202665765441692627281673305194497, 13287095900845302849160271783180894209, 3739985009242684423692268629216872746567310911209474, 202665766650636893921851166162946, 215659185302976245287192374018050, 1937703294548717338627, 202824221766721155956860393095169], [13297480494562372504417332775839334401, 3742908012517346229528675998882305312606622776295428, 228256463142744274964565862121476, 219303680778632404816495395733508, 1937703294548717338629, 202982678091749684632047480995841, 862761077120384758616447037611664135976280264243251350694777533759489, 202665766650636893921851166228481], [13287095980074674307690968079609167873, 3739985031543769909782109567750882022353600514686978, 202665767859581160562029027196930, 215659186511920511927370235052034, 1956150320097403666435, 202824222975665422597038254129153, 13297480573791743962948029072267608065, 3742908034818431715618516937416314588392912379772932], [228256464351688541604743723155460, 219303681987576671456673256767492, 1956150320097403666437, 202982679300693951272225342029825, 862761488502801286410931178226631588952574151342691200017123525591041, 202665767859581160562029027262465, 13287096059304045766221664376037441537, 3739985053844855395871950506284891298139890118164482], [202665769068525427202206888230914, 215659187720864778567548096086018, 1974597345646089994243, 202824224184609689237216115163137, 13297480653021115421478725368695881729, 3742908057119517201708357875950323864179201983250436, 228256465560632808244921584189444, 219303683196520938096851117801476], [1974597345646089994245, 202982680509638217912403203063809, 862761899885217814205415318841599041928868038442131049339469517422593, 202665769068525427202206888296449, 13287096138533417224752360672465715201, 3739985076145940881961791444818900573926179721641986, 202665770277469693842384749264898, 215659188929809045207725957120002]]
noncomputable def vd_898_3_2 : List (List Nat) := [[1993044371194776322051, 202824225393553955877393976197121, 13297480732250486880009421665124155393, 3742908079420602687798198814484333139965491586727940, 228256466769577074885099445223428, 219303684405465204737028978835460, 1993044371194776322053, 202982681718582484552581064097793], [862762311267634341999899459456566494905161925541570898661815509254145, 202665770277469693842384749330433, 13287096217762788683283056968893988865, 3739985098447026368051632383352909849712469325119490, 202665771486413960482562610298882, 215659190138753311847903818153986, 2011491396743462649859, 202824226602498222517571837231105], [13297480811479858338540117961552429057, 3742908101721688173888039753018342415751781190205444, 228256467978521341525277306257412, 219303685614409471377206839869444, 2011491396743462649861, 202982682927526751192758925131777, 862762722650050869794383600071533947881455812641010747984161501085697, 202665771486413960482562610364417], [13287096296992160141813753265322262529, 3739985120748111854141473321886919125498758928596994, 202665772695358227122740471332866, 215659191347697578488081679187970, 2029938422292148977667, 202824227811442489157749698265089, 13297480890709229797070814257980702721, 3742908124022773659977880691552351691538070793682948], [228256469187465608165455167291396, 219303686823353738017384700903428, 2029938422292148977669, 202982684136471017832936786165761, 862763134032467397588867740686501400857749699740450597306507492917249, 202665772695358227122740471398401, 13287096376221531600344449561750536193, 3739985143049197340231314260420928401285048532074498], [202665773904302493762918332366850, 215659192556641845128259540221954, 2048385447840835305475, 202824229020386755797927559299073, 13297480969938601255601510554408976385, 3742908146323859146067721630086360967324360397160452, 228256470396409874805633028325380, 219303688032298004657562561937412], [2048385447840835305477, 202982685345415284473114647199745, 862763545414883925383351881301468853834043586839890446628853484748801, 202665773904302493762918332432385, 13287096455450903058875145858178809857, 3739985165350282826321155198954937677071338135552002, 202665775113246760403096193400834, 215659193765586111768437401255938], [2066832473389521633283, 202824230229331022438105420333057, 13297481049167972714132206850837250049, 3742908168624944632157562568620370243110650000637956, 228256471605354141445810889359364, 219303689241242271297740422971396, 2066832473389521633285, 202982686554359551113292508233729]]
noncomputable def vd_898_3_3 : List (List Nat) := [[862763956797300453177836021916436306810337473939330295951199476580353, 202665775113246760403096193466369, 13287096534680274517405842154607083521, 3739985187651368312410996137488946952857627739029506, 202665776322191027043274054434818, 215659194974530378408615262289922, 2085279498938207961091, 202824231438275289078283281367041], [13297481128397344172662903147265523713, 3742908190926030118247403507154379518896939604115460, 228256472814298408085988750393348, 219303690450186537937918284005380, 2085279498938207961093, 202982687763303817753470369267713, 862764368179716980972320162531403759786631361038770145273545468411905, 202665776322191027043274054500353], [13287096613909645975936538451035357185, 3739985209952453798500837076022956228643917342507010, 202665777531135293683451915468802, 215659196183474645048793123323906, 2103726524486894288899, 202824232647219555718461142401025, 13297481207626715631193599443693797377, 3742908213227115604337244445688388794683229207592964], [228256474023242674726166611427332, 219303691659130804578096145039364, 2103726524486894288901, 202982688972248084393648230301697, 862764779562133508766804303146371212762925248138209994595891460243457, 202665777531135293683451915534337, 13287096693139017434467234747463630849, 3739985232253539284590678014556965504430206945984514], [202665778740079560323629776502786, 215659197392418911688970984357890, 2122173550035580616707, 202824233856163822358639003435009, 13297481286856087089724295740122071041, 3742908235528201090427085384222398070469518811070468, 228256475232186941366344472461316, 219303692868075071218274006073348], [2122173550035580616709, 202982690181192351033826091335681, 862765190944550036561288443761338665739219135237649843918237452075009, 202665778740079560323629776568321, 13287096772368388892997931043891904513, 3739985254554624770680518953090974780216496549462018, 202665779949023826963807637536770, 215659198601363178329148845391874], [2140620575584266944515, 202824235065108088998816864468993, 13297481366085458548254992036550344705, 3742908257829286576516926322756407346255808414547972, 228256476441131208006522333495300, 219303694077019337858451867107332, 2140620575584266944517, 202982691390136617674003952369665], [862765602326966564355772584376306118715513022337089693240583443906561, 202665779949023826963807637602305, 13287096851597760351528627340320178177, 3739985276855710256770359891624984056002786152939522, 202665781157968093603985498570754, 215659199810307444969326706425858, 2159067601132953272323, 202824236274052355638994725502977]]
noncomputable def vd_898_3_4 : List (List Nat) := [[13297481445314830006785688332978618369, 3742908280130372062606767261290416622042098018025476, 228256477650075474646700194529284, 219303695285963604498629728141316, 2159067601132953272325, 202982692599080884314181813403649, 862766013709383092150256724991273571691806909436529542562929435738113, 202665781157968093603985498636289], [13287096930827131810059323636748451841, 3739985299156795742860200830158993331789075756417026, 202665782366912360244163359604738, 215659201019251711609504567459842, 2177514626681639600131, 202824237482996622279172586536961, 13297481524544201465316384629406892033, 3742908302431457548696608199824425897828387621502980], [228256478859019741286878055563268, 219303696494907871138807589175300, 2177514626681639600133, 202982693808025150954359674437633, 862766425091799619944740865606241024668100796535969391885275427569665, 202665782366912360244163359670273, 13287097010056503268590019933176725505, 3739985321457881228950041768693002607575365359894530], [202665783575856626884341220638722, 215659202228195978249682428493826, 2195961652230325927939, 202824238691940888919350447570945, 13297481603773572923847080925835165697, 3742908324732543034786449138358435173614677224980484, 228256480067964007927055916597252, 219303697703852137778985450209284], [2195961652230325927941, 202982695016969417594537535471617, 862766836474216147739225006221208477644394683635409241207621419401217, 202665783575856626884341220704257, 13287097089285874727120716229604999169, 3739985343758966715039882707227011883361654963372034, 202665784784800893524519081672706, 215659203437140244889860289527810], [2214408677779012255747, 202824239900885155559528308604929, 13297481683002944382377777222263439361, 3742908347033628520876290076892444449400966828457988, 228256481276908274567233777631236, 219303698912796404419163311243268, 2214408677779012255749, 202982696225913684234715396505601], [862767247856632675533709146836175930620688570734849090529967411232769, 202665784784800893524519081738241, 13287097168515246185651412526033272833, 3739985366060052201129723645761021159147944566849538, 202665785993745160164696942706690, 215659204646084511530038150561794, 2232855703327698583555, 202824241109829422199706169638913], [13297481762232315840908473518691713025, 3742908369334714006966131015426453725187256431935492, 228256482485852541207411638665220, 219303700121740671059341172277252, 2232855703327698583557, 202982697434857950874893257539585, 862767659239049203328193287451143383596982457834288939852313403064321, 202665785993745160164696942772225]]
noncomputable def vd_898_3_5 : List (List Nat) := [[13287097247744617644182108822461546497, 3739985388361137687219564584295030434934234170327042, 202665787202689426804874803740674, 215659205855028778170216011595778, 2251302728876384911363, 202824242318773688839884030672897, 13297481841461687299439169815119986689, 3742908391635799493055971953960463000973546035412996], [228256483694796807847589499699204, 219303701330684937699519033311236, 2251302728876384911365, 202982698643802217515071118573569, 862768070621465731122677428066110836573276344933728789174659394895873, 202665787202689426804874803806209, 13287097326973989102712805118889820161, 3739985410662223173309405522829039710720523773804546], [202665788411633693445052664774658, 215659207063973044810393872629762, 2269749754425071239171, 202824243527717955480061891706881, 13297481920691058757969866111548260353, 3742908413936884979145812892494472276759835638890500, 228256484903741074487767360733188, 219303702539629204339696894345220], [2269749754425071239173, 202982699852746484155248979607553, 862768482003882258917161568681078289549570232033168638497005386727425, 202665788411633693445052664840193, 13287097406203360561243501415318093825, 3739985432963308659399246461363048986506813377282050, 202665789620577960085230525808642, 215659208272917311450571733663746], [2288196779973757566979, 202824244736662222120239752740865, 13297481999920430216500562407976534017, 3742908436237970465235653831028481552546125242368004, 228256486112685341127945221767172, 219303703748573470979874755379204, 2288196779973757566981, 202982701061690750795426840641537], [862768893386298786711645709296045742525864119132608487819351378558977, 202665789620577960085230525874177, 13287097485432732019774197711746367489, 3739985455264394145489087399897058262293102980759554, 202665790829522226725408386842626, 215659209481861578090749594697730, 2306643805522443894787, 202824245945606488760417613774849], [13297482079149801675031258704404807681, 3742908458539055951325494769562490828332414845845508, 228256487321629607768123082801156, 219303704957517737620052616413188, 2306643805522443894789, 202982702270635017435604701675521, 862769304768715314506129849911013195502158006232048337141697370390529, 202665790829522226725408386908161], [13287097564662103478304894008174641153, 3739985477565479631578928338431067538079392584237058, 202665792038466493365586247876610, 215659210690805844730927455731714, 2325090831071130222595, 202824247154550755400595474808833, 13297482158379173133561955000833081345, 3742908480840141437415335708096500104118704449323012]]
noncomputable def vd_898_3_6 : List (List Nat) := [[228256488530573874408300943835140, 219303706166462004260230477447172, 2325090831071130222597, 202982703479579284075782562709505, 862769716151131842300613990525980648478451893331488186464043362222081, 202665792038466493365586247942145, 13287097643891474936835590304602914817, 3739985499866565117668769276965076813865682187714562], [202665793247410760005764108910594, 215659211899750111371105316765698, 2343537856619816550403, 202824248363495022040773335842817, 13297482237608544592092651297261355009, 3742908503141226923505176646630509379904994052800516, 228256489739518141048478804869124, 219303707375406270900408338481156], [2343537856619816550405, 202982704688523550715960423743489, 862770127533548370095098131140948101454745780430928035786389354053633, 202665793247410760005764108976129, 13287097723120846395366286601031188481, 3739985522167650603758610215499086089651971791192066, 202665794456355026645941969944578, 215659213108694378011283177799682], [2361984882168502878211, 202824249572439288680951196876801, 13297482316837916050623347593689628673, 3742908525442312409595017585164518655691283656278020, 228256490948462407688656665903108, 219303708584350537540586199515140, 2361984882168502878213, 202982705897467817356138284777473], [862770538915964897889582271755915554431039667530367885108735345885185, 202665794456355026645941970010113, 13287097802350217853896982897459462145, 3739985544468736089848451154033095365438261394669570, 202665795665299293286119830978562, 215659214317638644651461038833666, 2380431907717189206019, 202824250781383555321129057910785], [13297482396067287509154043890117902337, 3742908547743397895684858523698527931477573259755524, 228256492157406674328834526937092, 219303709793294804180764060549124, 2380431907717189206021, 202982707106412083996316145811457, 862770950298381425684066412370883007407333554629807734431081337716737, 202665795665299293286119831044097], [13287097881579589312427679193887735809, 3739985566769821575938292092567104641224550998147074, 202665796874243559926297692012546, 215659215526582911291638899867650, 2398878933265875533827, 202824251990327821961306918944769, 13297482475296658967684740186546176001, 3742908570044483381774699462232537207263862863233028], [228256493366350940969012387971076, 219303711002239070820941921583108, 2398878933265875533829, 202982708315356350636494006845441, 862771361680797953478550552985850460383627441729247583753427329548289, 202665796874243559926297692078081, 13287097960808960770958375490316009473, 3739985589070907062028133031101113917010840601624578]]
noncomputable def vd_898_3_7 : List (List Nat) := [[202665798083187826566475553046530, 215659216735527177931816760901634, 2417325958814561861635, 202824253199272088601484779978753, 13297482554526030426215436482974449665, 3742908592345568867864540400766546483050152466710532, 228256494575295207609190249005060, 219303712211183337461119782617092], [2417325958814561861637, 202982709524300617276671867879425, 862771773063214481273034693600817913359921328828687433075773321379841, 202665798083187826566475553112065, 13287098040038332229489071786744283137, 3739985611371992548117973969635123192797130205102082, 202665799292132093206653414080514, 215659217944471444571994621935618], [2435772984363248189443, 202824254408216355241662641012737, 13297482633755401884746132779402723329, 3742908614646654353954381339300555758836442070188036, 228256495784239474249368110039044, 219303713420127604101297643651076, 2435772984363248189445, 202982710733244883916849728913409], [862772184445631009067518834215785366336215215928127282398119313211393, 202665799292132093206653414146049, 13287098119267703688019768083172556801, 3739985633673078034207814908169132468583419808579586, 202665800501076359846831275114498, 215659219153415711212172482969602, 2454220009911934517251, 202824255617160621881840502046721], [13297482712984773343276829075830996993, 3742908636947739840044222277834565034622731673665540, 228256496993183740889545971073028, 219303714629071870741475504685060, 2454220009911934517253, 202982711942189150557027589947393, 862772595828047536862002974830752819312509103027567131720465305042945, 202665800501076359846831275180033], [13287098198497075146550464379600830465, 3739985655974163520297655846703141744369709412057090, 202665801710020626487009136148482, 215659220362359977852350344003586, 2472667035460620845059, 202824256826104888522018363080705, 13297482792214144801807525372259270657, 3742908659248825326134063216368574310409021277143044], [228256498202128007529723832107012, 219303715838016137381653365719044, 2472667035460620845061, 202982713151133417197205450981377, 862773007210464064656487115445720272288802990127006981042811296874497, 202665801710020626487009136214017, 13287098277726446605081160676029104129, 3739985678275249006387496785237151020155999015534594], [202665802918964893127186997182466, 215659221571304244492528205037570, 2491114061009307172867, 202824258035049155162196224114689, 13297482871443516260338221668687544321, 3742908681549910812223904154902583586195310880620548, 228256499411072274169901693140996, 219303717046960404021831226753028]]
noncomputable def vd_898_3 : List (List (List Nat)) := [vd_898_3_0, vd_898_3_1, vd_898_3_2, vd_898_3_3, vd_898_3_4, vd_898_3_5, vd_898_3_6, vd_898_3_7]
noncomputable def vd_898_4_0 : List (List Nat) := [[2491114061009307172869, 202982714360077683837383312015361, 862773418592880592450971256060687725265096877226446830365157288706049, 202665802918964893127186997248001, 13287098356955818063611856972457377793, 3739985700576334492477337723771160295942288619012098, 202665804127909159767364858216450, 215659222780248511132706066071554], [2509561086557993500675, 202824259243993421802374085148673, 13297482950672887718868917965115817985, 3742908703850996298313745093436592861981600484098052, 228256500620016540810079554174980, 219303718255904670662009087787012, 2509561086557993500677, 202982715569021950477561173049345], [862773829975297120245455396675655178241390764325886679687503280537601, 202665804127909159767364858281985, 13287098436185189522142553268885651457, 3739985722877419978567178662305169571728578222489602, 202665805336853426407542719250434, 215659223989192777772883927105538, 2528008112106679828483, 202824260452937688442551946182657], [13297483029902259177399614261544091649, 3742908726152081784403586031970602137767890087575556, 228256501828960807450257415208964, 219303719464848937302186948820996, 2528008112106679828485, 202982716777966217117739034083329, 862774241357713648039939537290622631217684651425326529009849272369153, 202665805336853426407542719315969], [13287098515414560980673249565313925121, 3739985745178505464657019600839178847514867825967106, 202665806545797693047720580284418, 215659225198137044413061788139522, 2546455137655366156291, 202824261661881955082729807216641, 13297483109131630635930310557972365313, 3742908748453167270493426970504611413554179691053060], [228256503037905074090435276242948, 219303720673793203942364809854980, 2546455137655366156293, 202982717986910483757916895117313, 862774652740130175834423677905590084193978538524766378332195264200705, 202665806545797693047720580349953, 13287098594643932439203945861742198785, 3739985767479590950746860539373188123301157429444610], [202665807754741959687898441318402, 215659226407081311053239649173506, 2564902163204052484099, 202824262870826221722907668250625, 13297483188361002094461006854400638977, 3742908770754252756583267909038620689340469294530564, 228256504246849340730613137276932, 219303721882737470582542670888964], [2564902163204052484101, 202982719195854750398094756151297, 862775064122546703628907818520557537170272425624206227654541256032257, 202665807754741959687898441383937, 13287098673873303897734642158170472449, 3739985789780676436836701477907197399087447032922114, 202665808963686226328076302352386, 215659227616025577693417510207490]]
noncomputable def vd_898_4_1 : List (List Nat) := [[2583349188752738811907, 202824264079770488363085529284609, 13297483267590373552991703150828912641, 3742908793055338242673108847572629965126758898008068, 228256505455793607370790998310916, 219303723091681737222720531922948, 2583349188752738811909, 202982720404799017038272617185281], [862775475504963231423391959135524990146566312723646076976887247863809, 202665808963686226328076302417921, 13287098753102675356265338454598746113, 3739985812081761922926542416441206674873736636399618, 202665810172630492968254163386370, 215659228824969844333595371241474, 2601796214301425139715, 202824265288714755003263390318593], [13297483346819745011522399447257186305, 3742908815356423728762949786106639240913048501485572, 228256506664737874010968859344900, 219303724300626003862898392956932, 2601796214301425139717, 202982721613743283678450478219265, 862775886887379759217876099750492443122860199823085926299233239695361, 202665810172630492968254163451905], [13287098832332046814796034751027019777, 3739985834382847409016383354975215950660026239877122, 202665811381574759608432024420354, 215659230033914110973773232275458, 2620243239850111467523, 202824266497659021643441251352577, 13297483426049116470053095743685459969, 3742908837657509214852790724640648516699338104963076], [228256507873682140651146720378884, 219303725509570270503076253990916, 2620243239850111467525, 202982722822687550318628339253249, 862776298269796287012360240365459896099154086922525775621579231526913, 202665811381574759608432024485889, 13287098911561418273326731047455293441, 3739985856683932895106224293509225226446315843354626], [202665812590519026248609885454338, 215659231242858377613951093309442, 2638690265398797795331, 202824267706603288283619112386561, 13297483505278487928583792040113733633, 3742908859958594700942631663174657792485627708440580, 228256509082626407291324581412868, 219303726718514537143254115024900], [2638690265398797795333, 202982724031631816958806200287233, 862776709652212814806844380980427349075447974021965624943925223358465, 202665812590519026248609885519873, 13287098990790789731857427343883567105, 3739985878985018381196065232043234502232605446832130, 202665813799463292888787746488322, 215659232451802644254128954343426], [2657137290947484123139, 202824268915547554923796973420545, 13297483584507859387114488336542007297, 3742908882259680187032472601708667068271917311918084, 228256510291570673931502442446852, 219303727927458803783431976058884, 2657137290947484123141, 202982725240576083598984061321217]]
noncomputable def vd_898_4_2 : List (List Nat) := [[862777121034629342601328521595394802051741861121405474266271215190017, 202665813799463292888787746553857, 13287099070020161190388123640311840769, 3739985901286103867285906170577243778018895050309634, 202665815008407559528965607522306, 215659233660746910894306815377410, 2675584316496170450947, 202824270124491821563974834454529], [13297483663737230845645184632970280961, 3742908904560765673122313540242676344058206915395588, 228256511500514940571680303480836, 219303729136403070423609837092868, 2675584316496170450949, 202982726449520350239161922355201, 862777532417045870395812662210362255028035748220845323588617207021569, 202665815008407559528965607587841], [13287099149249532648918819936740114433, 3739985923587189353375747109111253053805184653787138, 202665816217351826169143468556290, 215659234869691177534484676411394, 2694031342044856778755, 202824271333436088204152695488513, 13297483742966602304175880929398554625, 3742908926861851159212154478776685619844496518873092], [228256512709459207211858164514820, 219303730345347337063787698126852, 2694031342044856778757, 202982727658464616879339783389185, 862777943799462398190296802825329708004329635320285172910963198853121, 202665816217351826169143468621825, 13287099228478904107449516233168388097, 3739985945888274839465588047645262329591474257264642], [202665817426296092809321329590274, 215659236078635444174662537445378, 2712478367593543106563, 202824272542380354844330556522497, 13297483822195973762706577225826828289, 3742908949162936645301995417310694895630786122350596, 228256513918403473852036025548804, 219303731554291603703965559160836], [2712478367593543106565, 202982728867408883519517644423169, 862778355181878925984780943440297160980623522419725022233309190684673, 202665817426296092809321329655809, 13287099307708275565980212529596661761, 3739985968189360325555428986179271605377763860742146, 202665818635240359449499190624258, 215659237287579710814840398479362], [2730925393142229434371, 202824273751324621484508417556481, 13297483901425345221237273522255101953, 3742908971464022131391836355844704171417075725828100, 228256515127347740492213886582788, 219303732763235870344143420194820, 2730925393142229434373, 202982730076353150159695505457153], [862778766564295453779265084055264613956917409519164871555655182516225, 202665818635240359449499190689793, 13287099386937647024510908826024935425, 3739985990490445811645269924713280881164053464219650, 202665819844184626089677051658242, 215659238496523977455018259513346, 2749372418690915762179, 202824274960268888124686278590465]]
noncomputable def vd_898_4_3 : List (List Nat) := [[13297483980654716679767969818683375617, 3742908993765107617481677294378713447203365329305604, 228256516336292007132391747616772, 219303733972180136984321281228804, 2749372418690915762181, 202982731285297416799873366491137, 862779177946711981573749224670232066933211296618604720878001174347777, 202665819844184626089677051723777], [13287099466167018483041605122453209089, 3739986012791531297735110863247290156950343067697154, 202665821053128892729854912692226, 215659239705468244095196120547330, 2767819444239602089987, 202824276169213154764864139624449, 13297484059884088138298666115111649281, 3742909016066193103571518232912722722989654932783108], [228256517545236273772569608650756, 219303735181124403624499142262788, 2767819444239602089989, 202982732494241683440051227525121, 862779589329128509368233365285199519909505183718044570200347166179329, 202665821053128892729854912757761, 13287099545396389941572301418881482753, 3739986035092616783824951801781299432736632671174658], [202665822262073159370032773726210, 215659240914412510735373981581314, 2786266469788288417795, 202824277378157421405042000658433, 13297484139113459596829362411539922945, 3742909038367278589661359171446731998775944536260612, 228256518754180540412747469684740, 219303736390068670264677003296772], [2786266469788288417797, 202982733703185950080229088559105, 862780000711545037162717505900166972885799070817484419522693158010881, 202665822262073159370032773791745, 13287099624625761400102997715309756417, 3739986057393702269914792740315308708522922274652162, 202665823471017426010210634760194, 215659242123356777375551842615298], [2804713495336974745603, 202824278587101688045219861692417, 13297484218342831055360058707968196609, 3742909060668364075751200109980741274562234139738116, 228256519963124807052925330718724, 219303737599012936904854864330756, 2804713495336974745605, 202982734912130216720406949593089], [862780412093961564957201646515134425862092957916924268845039149842433, 202665823471017426010210634825729, 13287099703855132858633694011738030081, 3739986079694787756004633678849317984309211878129666, 202665824679961692650388495794178, 215659243332301044015729703649282, 2823160520885661073411, 202824279796045954685397722726401], [13297484297572202513890755004396470273, 3742909082969449561841041048514750550348523743215620, 228256521172069073693103191752708, 219303738807957203545032725364740, 2823160520885661073413, 202982736121074483360584810627073, 862780823476378092751685787130101878838386845016364118167385141673985, 202665824679961692650388495859713]]
noncomputable def vd_898_4_4 : List (List Nat) := [[13287099783084504317164390308166303745, 3739986101995873242094474617383327260095501481607170, 202665825888905959290566356828162, 215659244541245310655907564683266, 2841607546434347401219, 202824281004990221325575583760385, 13297484376801573972421451300824743937, 3742909105270535047930881987048759826134813346693124], [228256522381013340333281052786692, 219303740016901470185210586398724, 2841607546434347401221, 202982737330018750000762671661057, 862781234858794620546169927745069331814680732115803967489731133505537, 202665825888905959290566356893697, 13287099862313875775695086604594577409, 3739986124296958728184315555917336535881791085084674], [202665827097850225930744217862146, 215659245750189577296085425717250, 2860054571983033729027, 202824282213934487965753444794369, 13297484456030945430952147597253017601, 3742909127571620534020722925582769101921102950170628, 228256523589957606973458913820676, 219303741225845736825388447432708], [2860054571983033729029, 202982738538963016640940532695041, 862781646241211148340654068360036784790974619215243816812077125337089, 202665827097850225930744217927681, 13287099941543247234225782901022851073, 3739986146598044214274156494451345811668080688562178, 202665828306794492570922078896130, 215659246959133843936263286751234], [2878501597531720056835, 202824283422878754605931305828353, 13297484535260316889482843893681291265, 3742909149872706020110563864116778377707392553648132, 228256524798901873613636774854660, 219303742434790003465566308466692, 2878501597531720056837, 202982739747907283281118393729025], [862782057623627676135138208975004237767268506314683666134423117168641, 202665828306794492570922078961665, 13287100020772618692756479197451124737, 3739986168899129700363997432985355087454370292039682, 202665829515738759211099939930114, 215659248168078110576441147785218, 2896948623080406384643, 202824284631823021246109166862337], [13297484614489688348013540190109564929, 3742909172173791506200404802650787653493682157125636, 228256526007846140253814635888644, 219303743643734270105744169500676, 2896948623080406384645, 202982740956851549921296254763009, 862782469006044203929622349589971690743562393414123515456769109000193, 202665829515738759211099939995649], [13287100100001990151287175493879398401, 3739986191200215186453838371519364363240659895517186, 202665830724683025851277800964098, 215659249377022377216619008819202, 2915395648629092712451, 202824285840767287886287027896321, 13297484693719059806544236486537838593, 3742909194474876992290245741184796929279971760603140]]
noncomputable def vd_898_4_5 : List (List Nat) := [[228256527216790406893992496922628, 219303744852678536745922030534660, 2915395648629092712453, 202982742165795816561474115796993, 862782880388460731724106490204939143719856280513563364779115100831745, 202665830724683025851277801029633, 13287100179231361609817871790307672065, 3739986213501300672543679310053373639026949498994690], [202665831933626571634040306008066, 215659250585965922999381513863170, 2933842674177779040259, 202824287049711554526464888930305, 13297484772948431265074932782966112257, 3742909216775962478379928223393777676391074276179972, 228256528425733952676755001966596, 219303746061622082528684535578628], [2933842674177779040261, 202982743374740083201651976830977, 862783291770877259518590630818545446459120520876959033645303265624065, 202665831933626571634040306073601, 13287100258460685826236995316574257153, 13287100258460685826236995316574257154, 2952289699726465368067, 202824288258655100309227393974273], [13297484852177755481494056309232697345, 13297484852177755481494056309232697348, 2952289699726465368069, 202982744583683628984414481874945, 166166096943176408940431092635074561, 2952289699726465433606, 215580022423451658661787969978369, 2933842674177779105798], [215580021214508112879025464934401, 2915395648629092777990, 215580020005563846238847603900417, 2896948623080406450182, 215580018796619579598669742866433, 2878501597531720122374, 215580017587675312958491881832449, 2860054571983033794566], [215580016378731046318314020798465, 2841607546434347466758, 215580015169786779678136159764481, 2823160520885661138950, 215580013960842513037958298730497, 2804713495336974811142, 215580012751898246397780437696513, 2786266469788288483334], [215580011542953979757602576662529, 2767819444239602155526, 215580010334009713117424715628545, 2749372418690915827718, 215580009125065446477246854594561, 2730925393142229499910, 215580007916121179837068993560577, 2712478367593543172102], [215580006707176913196891132526593, 2694031342044856844294, 215580005498232646556713271492609, 2675584316496170516486, 215580004289288379916535410458625, 2657137290947484188678, 215580003080344113276357549424641, 2638690265398797860870]]
noncomputable def vd_898_4_6 : List (List Nat) := [[215580001871399846636179688390657, 2620243239850111533062, 215580000662455579996001827356673, 2601796214301425205254, 215579999453511313355823966322689, 2583349188752738877446, 215579998244567046715646105288705, 2564902163204052549638], [215579997035622780075468244254721, 2546455137655366221830, 215579995826678513435290383220737, 2528008112106679894022, 215579994617734246795112522186753, 2509561086557993566214, 215579993408789980154934661152769, 2491114061009307238406], [215579992199845713514756800118785, 2472667035460620910598, 215579990990901446874578939084801, 2454220009911934582790, 215579989781957180234401078050817, 2435772984363248254982, 215579988573012913594223217016833, 2417325958814561927174], [215579987364068646954045355982849, 2398878933265875599366, 215579986155124380313867494948865, 2380431907717189271558, 215579984946180113673689633914881, 2361984882168502943750, 215579983737235847033511772880897, 2343537856619816615942], [215579982528291580393333911846913, 2325090831071130288134, 215579981319347313753156050812929, 2306643805522443960326, 215579980110403047112978189778945, 2288196779973757632518, 215579978901458780472800328744961, 2269749754425071304710], [215579977692514513832622467710977, 2251302728876384976902, 215579976483570247192444606676993, 2232855703327698649094, 215579975274625980552266745643009, 2214408677779012321286, 215579974065681713912088884609025, 2195961652230325993478], [215579972856737447271911023575041, 2177514626681639665670, 215579971647793180631733162541057, 2159067601132953337862, 215579970438848913991555301507073, 2140620575584267010054, 215579969229904647351377440473089, 2122173550035580682246], [215579968020960380711199579439105, 2103726524486894354438, 215579966812016114071021718405121, 2085279498938208026630, 215579965603071847430843857371137, 2066832473389521698822, 215579964394127580790665996337153, 2048385447840835371014]]
noncomputable def vd_898_4_7 : List (List Nat) := [[215579963185183314150488135303169, 2029938422292149043206, 215579961976239047510310274269185, 2011491396743462715398, 215579960767294780870132413235201, 1993044371194776387590, 215579959558350514229954552201217, 1974597345646090059782], [215579958349406247589776691167233, 1956150320097403731974, 215579957140461980949598830133249, 1937703294548717404166, 215579955931517714309420969099265, 1919256269000031076358, 215579954722573447669243108065281, 1900809243451344748550], [215579953513629181029065247031297, 1882362217902658420742, 215579952304684914388887385997313, 1863915192353972092934, 215579951095740647748709524963329, 1845468166805285765126, 215579949886796381108531663929345, 1827021141256599437318], [215579948677852114468353802895361, 1808574115707913109510, 215579947468907847828175941861377, 1790127090159226781702, 215579946259963581187998080827393, 1771653605962729652230, 215579945051019314547820219793409, 1753233320536830836742], [215579943842075047907642358759425, 1734786294988144508934, 215579942633130781267464497725441, 1716339269439458181126, 215579941424186514627286636691457, 1697892243890771853318, 215579940215242247987108775657473, 1679445218342085525510], [215579939006297981346930914623489, 1660998192793399197702, 215579937797353714706753053589505, 1642551167244712869894, 215579936588409448066575192555521, 1624104141696026542086, 215579935379465181426397331521537, 1605657116147340214278], [215579934170520914786219470487553, 1587210090598653886470, 215579932961576648146041609453569, 1568763065049967558662, 215579931752632381505863748419585, 1550316039501281230854, 215579930543688114865685887385601, 1531869013952594903046], [215579929334743848225508026351617, 1513421988403908575238, 215579928125799581585330165317633, 1494974962855222247430, 215579926916855314945152304283649, 1476527937306535919622, 215579925707911048304974443249665, 1458080911757849591814]]
noncomputable def vd_898_4 : List (List (List Nat)) := [vd_898_4_0, vd_898_4_1, vd_898_4_2, vd_898_4_3, vd_898_4_4, vd_898_4_5, vd_898_4_6, vd_898_4_7]
noncomputable def vd_898_5_0 : List (List Nat) := [[215579924498966781664796582215681, 1439633886209163264006, 215579923290022515024618721181697, 1421186860660476936198, 215579922081078248384440860147713, 1402739835111790608390, 215579920872133981744262999113729, 1384292809563104280582], [215579919663189715104085138079745, 1365845784014417952774, 215579918454245448463907277045761, 1347398758465731624966, 215579917245301181823729416011777, 1328951732917045297158, 215579916036356915183551554977793, 1310504707368358969350], [215579914827412648543373693943809, 1292057681819672641542, 215579913618468381903195832909825, 1273610656270986313734, 215579912409524115263017971875841, 1255163630722299985926, 215579911200579848622840110841857, 1236716605173613658118], [215579909991635581982662249807873, 1218269579624927330310, 215579908782691315342484388773889, 1199822554076241002502, 215579907573747048702306527739905, 1181375528527554674694, 215579906364802782062128666705921, 1162928502978868346886], [215579905155858515421950805671937, 1144481477430182019078, 215579903946914248781772944637953, 1126034451881495691270, 215579902737969982141595083603969, 1107587426332809363462, 215579901529025715501417222569985, 1089140400784123035654], [215579900320081448861239361536001, 1070693375235436707846, 215579899111137182221061500502017, 1052246349686750380038, 215579897902192915580883639468033, 1033799324138064052230, 215579896693248648940705778434049, 1015352298589377724422], [215579895484304382300527917400065, 996905273040691396614, 215579894275360115660350056366081, 978458247492005068806, 215579893066415849020172195332097, 960011221943318740998, 215579891857471582379994334298113, 941564196394632413190], [215579890648527315739816473264129, 923117170845946085382, 215579889439583049099638612230145, 904670145297259757574, 215579888230638782459460751196161, 886223119748573429766, 215579887021694515819282890162177, 867776094199887101958]]
noncomputable def vd_898_5_1 : List (List Nat) := [[215579885812750249179105029128193, 849329068651200774150, 215579884603805982538927168094209, 830882043102514446342, 215579883394861715898749307060225, 812435017553828118534, 215579882185917449258571446026241, 793987992005141790726], [215579880976973182618393584992257, 775540966456455462918, 215579879768028915978215723958273, 757093940907769135110, 215579878559084649338037862924289, 738646915359082807302, 215579877350140382697860001890305, 720199889810396479494], [215579876141196116057682140856321, 701752864261710151686, 215579874932251849417504279822337, 683305838713023823878, 215579873723307582777326418788353, 664858813164337496070, 215579872514363316137148557754369, 646411787615651168262], [215579871305419049496970696720385, 627964762066964840454, 215579870096474782856792835686401, 609517736518278512646, 215579868887530516216614974652417, 591070710969592184838, 215579867678586249576437113618433, 572614959696627826694], [215579866469641982936259252584449, 554176941347196239878, 215579865260697716296081391550465, 535729915798509912070, 215579864051753449655903530516481, 517282890249823584262, 215579862842809183015725669482497, 498835864701137256454], [215579861633864916375547808448513, 480388839152450928646, 215579860424920649735369947414529, 461941813603764600838, 215579859215976383095192086380545, 443494788055078273030, 215579858007032116455014225346561, 425047762506391945222], [215579856798087849814836364312577, 406600736957705617414, 215579855589143583174658503278593, 388153711409019289606, 215579854380199316534480642244609, 369706685860332961798, 215579853171255049894302781210625, 351259660311646633990], [215579851962310783254124920176641, 332812634762960306182, 215579850753366516613947059142657, 314365609214273978374, 215579849544422249973769198108673, 295918583665587650566, 215579848335477983333591337074689, 277471558116901322758]]
noncomputable def vd_898_5_2 : List (List Nat) := [[215579847126533716693413476040705, 259024532568214994950, 215579845917589450053235615006721, 240577507019528667142, 215579844708645183413057753972737, 222130481470842339334, 215579843499700916772879892938753, 203683455922156011526], [215579842290756650132702031904769, 185236430373469683718, 215579841081812383492524170870785, 166789404824783355910, 215579839872868116852346309836801, 148342379276097028102, 215579838663923850212168448802817, 129895353727410700294], [215579837454979583571990587768833, 111448328178724372486, 215579836246035316931812726734849, 93001302630038044678, 215579835037091050291634865700865, 74554277081351716870, 215579833828146783651457004666881, 56107251532665389062], [215579832619202517011279143632897, 37660225983979061254, 215579831410258250371101282598913, 19213200435292733446, 215579830201313982323548538011649, 6]]
noncomputable def vd_898_5 : List (List (List Nat)) := [vd_898_5_0, vd_898_5_1, vd_898_5_2]
noncomputable def vd_898 : List (List (List (List Nat))) := [vd_898_0, vd_898_1, vd_898_2, vd_898_3, vd_898_4, vd_898_5]
noncomputable def vt_898 : List (List am_I) := [[(.ofNat 1, .ofNat 160), (.ofNat 123, .ofNat 127), (.ofNat 97, .ofNat 122), (.ofNat 58, .ofNat 96), (.ofNat 48, .ofNat 57), (.ofNat 33, .ofNat 47), (.ofNat 2, .ofNat 160), (.ofNat 3, .ofNat 160)], [(.ofNat 4, .ofNat 160), (.ofNat 5, .ofNat 160), (.ofNat 6, .ofNat 160), (.ofNat 7, .ofNat 160), (.ofNat 8, .ofNat 160), (.ofNat 9, .ofNat 160), (.ofNat 10, .ofNat 160), (.ofNat 11, .ofNat 160)], [(.ofNat 12, .ofNat 160), (.ofNat 13, .ofNat 160), (.ofNat 14, .ofNat 160), (.ofNat 15, .ofNat 160), (.ofNat 16, .ofNat 160), (.ofNat 17, .ofNat 160), (.ofNat 18, .ofNat 160), (.ofNat 19, .ofNat 160)], [(.ofNat 20, .ofNat 160), (.ofNat 21, .ofNat 160), (.ofNat 22, .ofNat 160), (.ofNat 23, .ofNat 160), (.ofNat 24, .ofNat 160), (.ofNat 25, .ofNat 160), (.ofNat 26, .ofNat 160), (.ofNat 27, .ofNat 160)], [(.ofNat 28, .ofNat 160), (.ofNat 29, .ofNat 160), (.ofNat 30, .ofNat 160), (.ofNat 31, .ofNat 160), (.ofNat 32, .ofNat 160), (.ofNat 33, .ofNat 160), (.ofNat 34, .ofNat 160), (.ofNat 35, .ofNat 160)], [(.ofNat 36, .ofNat 160), (.ofNat 37, .ofNat 160), (.ofNat 38, .ofNat 160), (.ofNat 39, .ofNat 160), (.ofNat 40, .ofNat 160), (.ofNat 41, .ofNat 160), (.ofNat 42, .ofNat 160), (.ofNat 43, .ofNat 160)], [(.ofNat 44, .ofNat 160), (.ofNat 45, .ofNat 160), (.ofNat 46, .ofNat 160), (.ofNat 47, .ofNat 160), (.ofNat 48, .ofNat 160), (.ofNat 49, .ofNat 160), (.ofNat 50, .ofNat 160), (.ofNat 51, .ofNat 160)], [(.ofNat 52, .ofNat 160), (.ofNat 53, .ofNat 160), (.ofNat 54, .ofNat 160), (.ofNat 55, .ofNat 160), (.ofNat 56, .ofNat 160), (.ofNat 57, .ofNat 160), (.ofNat 58, .ofNat 160), (.ofNat 59, .ofNat 160)], [(.ofNat 60, .ofNat 160), (.ofNat 61, .ofNat 160), (.ofNat 62, .ofNat 160), (.ofNat 63, .ofNat 160), (.ofNat 64, .ofNat 160), (.ofNat 65, .ofNat 160), (.ofNat 66, .ofNat 160), (.ofNat 67, .ofNat 160)], [(.ofNat 68, .ofNat 160), (.ofNat 69, .ofNat 160), (.ofNat 70, .ofNat 160), (.ofNat 71, .ofNat 160), (.ofNat 72, .ofNat 160), (.ofNat 73, .ofNat 160), (.ofNat 74, .ofNat 160), (.ofNat 75, .ofNat 160)], [(.ofNat 76, .ofNat 160), (.ofNat 77, .ofNat 160), (.ofNat 78, .ofNat 160), (.ofNat 79, .ofNat 160), (.ofNat 80, .ofNat 160), (.ofNat 81, .ofNat 160), (.ofNat 82, .ofNat 160), (.ofNat 83, .ofNat 160)], [(.ofNat 84, .ofNat 160), (.ofNat 85, .ofNat 160), (.ofNat 86, .ofNat 160), (.ofNat 87, .ofNat 160), (.ofNat 88, .ofNat 160), (.ofNat 89, .ofNat 160), (.ofNat 90, .ofNat 160), (.ofNat 91, .ofNat 160)], [(.ofNat 92, .ofNat 160), (.ofNat 93, .ofNat 160), (.ofNat 94, .ofNat 160), (.ofNat 95, .ofNat 160), (.ofNat 96, .ofNat 160), (.ofNat 97, .ofNat 160), (.ofNat 98, .ofNat 160), (.ofNat 99, .ofNat 160)], [(.ofNat 100, .ofNat 160), (.ofNat 101, .ofNat 160), (.ofNat 102, .ofNat 160), (.ofNat 103, .ofNat 160), (.ofNat 104, .ofNat 160), (.ofNat 105, .ofNat 160), (.ofNat 106, .ofNat 160), (.ofNat 107, .ofNat 160)], [(.ofNat 108, .ofNat 160), (.ofNat 109, .ofNat 160), (.ofNat 110, .ofNat 160), (.ofNat 111, .ofNat 160), (.ofNat 112, .ofNat 160), (.ofNat 113, .ofNat 160), (.ofNat 114, .ofNat 160), (.ofNat 115, .ofNat 160)], [(.ofNat 116, .ofNat 160), (.ofNat 117, .ofNat 160), (.ofNat 118, .ofNat 160), (.ofNat 119, .ofNat 160), (.ofNat 120, .ofNat 160), (.ofNat 121, .ofNat 160), (.ofNat 122, .ofNat 160), (.ofNat 123, .ofNat 160)], [(.ofNat 124, .ofNat 160), (.ofNat 125, .ofNat 160), (.ofNat 126, .ofNat 160), (.ofNat 127, .ofNat 160), (.ofNat 128, .ofNat 160), (.ofNat 129, .ofNat 160), (.ofNat 130, .ofNat 160), (.ofNat 131, .ofNat 160)], [(.ofNat 132, .ofNat 160), (.ofNat 133, .ofNat 160), (.ofNat 134, .ofNat 160), (.ofNat 135, .ofNat 160), (.ofNat 136, .ofNat 160), (.ofNat 137, .ofNat 160), (.ofNat 138, .ofNat 160), (.ofNat 139, .ofNat 160)], [(.ofNat 140, .ofNat 160), (.ofNat 141, .ofNat 160), (.ofNat 142, .ofNat 160), (.ofNat 143, .ofNat 160), (.ofNat 144, .ofNat 160), (.ofNat 145, .ofNat 160), (.ofNat 146, .ofNat 160), (.ofNat 147, .ofNat 160)], [(.ofNat 148, .ofNat 160), (.ofNat 149, .ofNat 160), (.ofNat 150, .ofNat 160), (.ofNat 151, .ofNat 160), (.ofNat 152, .ofNat 160), (.ofNat 153, .ofNat 160), (.ofNat 154, .ofNat 160), (.ofNat 155, .ofNat 160)], [(.ofNat 156, .ofNat 160), (.ofNat 157, .ofNat 160), (.ofNat 158, .ofNat 160), (.ofNat 159, .ofNat 160), (.ofNat 0, .ofNat 31), (.ofNat 0, .ofNat 96), (.ofNat 0, .ofNat 1), (.ofNat 0, .ofNat 2)], [(.ofNat 0, .ofNat 3), (.ofNat 0, .ofNat 4), (.ofNat 0, .ofNat 5), (.ofNat 0, .ofNat 6), (.ofNat 0, .ofNat 7), (.ofNat 0, .ofNat 8), (.ofNat 0, .ofNat 9), (.ofNat 0, .ofNat 10)], [(.ofNat 0, .ofNat 11), (.ofNat 0, .ofNat 12), (.ofNat 0, .ofNat 13), (.ofNat 0, .ofNat 14), (.ofNat 0, .ofNat 15), (.ofNat 0, .ofNat 16), (.ofNat 0, .ofNat 17), (.ofNat 0, .ofNat 18)], [(.ofNat 0, .ofNat 19), (.ofNat 0, .ofNat 20), (.ofNat 0, .ofNat 21), (.ofNat 0, .ofNat 22), (.ofNat 0, .ofNat 23), (.ofNat 0, .ofNat 24), (.ofNat 0, .ofNat 25), (.ofNat 0, .ofNat 26)], [(.ofNat 0, .ofNat 27), (.ofNat 0, .ofNat 28), (.ofNat 0, .ofNat 29), (.ofNat 0, .ofNat 30), (.ofNat 0, .ofNat 32), (.ofNat 0, .ofNat 33), (.ofNat 0, .ofNat 34), (.ofNat 0, .ofNat 35)], [(.ofNat 0, .ofNat 36), (.ofNat 0, .ofNat 37), (.ofNat 0, .ofNat 38), (.ofNat 0, .ofNat 39), (.ofNat 0, .ofNat 40), (.ofNat 0, .ofNat 41), (.ofNat 0, .ofNat 42), (.ofNat 0, .ofNat 43)], [(.ofNat 0, .ofNat 44), (.ofNat 0, .ofNat 45), (.ofNat 0, .ofNat 46), (.ofNat 0, .ofNat 47), (.ofNat 0, .ofNat 48), (.ofNat 0, .ofNat 49), (.ofNat 0, .ofNat 50), (.ofNat 0, .ofNat 51)], [(.ofNat 0, .ofNat 52), (.ofNat 0, .ofNat 53), (.ofNat 0, .ofNat 54), (.ofNat 0, .ofNat 55), (.ofNat 0, .ofNat 56), (.ofNat 0, .ofNat 57), (.ofNat 0, .ofNat 58), (.ofNat 0, .ofNat 59)], [(.ofNat 0, .ofNat 60), (.ofNat 0, .ofNat 61), (.ofNat 0, .ofNat 62), (.ofNat 0, .ofNat 63), (.ofNat 0, .ofNat 64), (.ofNat 0, .ofNat 65), (.ofNat 0, .ofNat 66), (.ofNat 0, .ofNat 67)], [(.ofNat 0, .ofNat 68), (.ofNat 0, .ofNat 69), (.ofNat 0, .ofNat 70), (.ofNat 0, .ofNat 71), (.ofNat 0, .ofNat 72), (.ofNat 0, .ofNat 73), (.ofNat 0, .ofNat 74), (.ofNat 0, .ofNat 75)], [(.ofNat 0, .ofNat 76), (.ofNat 0, .ofNat 77), (.ofNat 0, .ofNat 78), (.ofNat 0, .ofNat 79), (.ofNat 0, .ofNat 80), (.ofNat 0, .ofNat 81), (.ofNat 0, .ofNat 82), (.ofNat 0, .ofNat 83)], [(.ofNat 0, .ofNat 84), (.ofNat 0, .ofNat 85), (.ofNat 0, .ofNat 86), (.ofNat 0, .ofNat 87), (.ofNat 0, .ofNat 88), (.ofNat 0, .ofNat 89), (.ofNat 0, .ofNat 90), (.ofNat 0, .ofNat 91)], [(.ofNat 0, .ofNat 92), (.ofNat 0, .ofNat 93), (.ofNat 0, .ofNat 94), (.ofNat 0, .ofNat 95), (.ofNat 0, .ofNat 97), (.ofNat 0, .ofNat 98), (.ofNat 0, .ofNat 99), (.ofNat 0, .ofNat 100)], [(.ofNat 0, .ofNat 101), (.ofNat 0, .ofNat 102), (.ofNat 0, .ofNat 103), (.ofNat 0, .ofNat 104), (.ofNat 0, .ofNat 105), (.ofNat 0, .ofNat 106), (.ofNat 0, .ofNat 107), (.ofNat 0, .ofNat 108)], [(.ofNat 0, .ofNat 109), (.ofNat 0, .ofNat 110), (.ofNat 0, .ofNat 111), (.ofNat 0, .ofNat 112), (.ofNat 0, .ofNat 113), (.ofNat 0, .ofNat 114), (.ofNat 0, .ofNat 115), (.ofNat 0, .ofNat 116)], [(.ofNat 0, .ofNat 117), (.ofNat 0, .ofNat 118), (.ofNat 0, .ofNat 119), (.ofNat 0, .ofNat 120), (.ofNat 0, .ofNat 121), (.ofNat 0, .ofNat 122), (.ofNat 0, .ofNat 123), (.ofNat 0, .ofNat 124)], [(.ofNat 0, .ofNat 125), (.ofNat 0, .ofNat 126), (.ofNat 0, .ofNat 127), (.ofNat 0, .ofNat 128), (.ofNat 0, .ofNat 129), (.ofNat 0, .ofNat 130), (.ofNat 0, .ofNat 131), (.ofNat 0, .ofNat 132)], [(.ofNat 0, .ofNat 133), (.ofNat 0, .ofNat 134), (.ofNat 0, .ofNat 135), (.ofNat 0, .ofNat 136), (.ofNat 0, .ofNat 137), (.ofNat 0, .ofNat 138), (.ofNat 0, .ofNat 139), (.ofNat 0, .ofNat 140)], [(.ofNat 0, .ofNat 141), (.ofNat 0, .ofNat 142), (.ofNat 0, .ofNat 143), (.ofNat 0, .ofNat 144), (.ofNat 0, .ofNat 145), (.ofNat 0, .ofNat 146), (.ofNat 0, .ofNat 147), (.ofNat 0, .ofNat 148)], [(.ofNat 0, .ofNat 149), (.ofNat 0, .ofNat 150), (.ofNat 0, .ofNat 151), (.ofNat 0, .ofNat 152), (.ofNat 0, .ofNat 153), (.ofNat 0, .ofNat 154), (.ofNat 0, .ofNat 155), (.ofNat 0, .ofNat 156)], [(.ofNat 0, .ofNat 157), (.ofNat 0, .ofNat 158), (.ofNat 0, .ofNat 159), (.ofNat 0, .ofNat 160), (.ofNat 58, .ofNat 127)]]
noncomputable def vc_898 : vm_C := (vp_898, fun pc => (match Nat.beq pc 8 with
  | true => [(fun _ _ => some (.inr (62, 14)), fun _ _ => none), (fun _ _ => some (.inr (62, 13)), fun _ h => match fm_cell h 70 with
    | some (.inr (.inr (.inr (_, fs)))) => (match vm_nth fs 14 with
      | some (.inl b) => some [Int.add b.1 (.ofNat 1)]
      | _ => some [])
    | _ => some []), (fun _ h => match fm_cell h 70 with
    | some (.inr (.inr (.inr (_, fs)))) => (match vm_nth fs 14 with
      | some (.inl b) => (match fm_ix b with
        | some n => some (.inr (66, n))
        | none => none)
      | _ => none)
    | _ => none, fun _ _ => some [.ofNat 32, .ofNat 33, .ofNat 48, .ofNat 58, .ofNat 97, .ofNat 123])]
  | false => (match Nat.beq pc 82 with
  | true => [(fun _ _ => some (.inr (62, 14)), fun _ _ => none), (fun _ _ => some (.inr (62, 13)), fun _ h => match fm_cell h 70 with
    | some (.inr (.inr (.inr (_, fs)))) => (match vm_nth fs 14 with
      | some (.inl b) => some [Int.add b.1 (.ofNat 1)]
      | _ => some [])
    | _ => some []), (fun _ h => match fm_cell h 70 with
    | some (.inr (.inr (.inr (_, fs)))) => (match vm_nth fs 14 with
      | some (.inl b) => (match fm_ix b with
        | some n => some (.inr (66, n))
        | none => none)
      | _ => none)
    | _ => none, fun _ _ => some [.ofNat 97, .ofNat 123])]
  | false => (match Nat.beq pc 140 with
  | true => [(fun _ _ => some (.inr (62, 14)), fun _ _ => none), (fun _ _ => some (.inr (62, 13)), fun _ h => match fm_cell h 70 with
    | some (.inr (.inr (.inr (_, fs)))) => (match vm_nth fs 14 with
      | some (.inl b) => some [Int.add b.1 (.ofNat 1)]
      | _ => some [])
    | _ => some []), (fun _ h => match fm_cell h 70 with
    | some (.inr (.inr (.inr (_, fs)))) => (match vm_nth fs 14 with
      | some (.inl b) => (match fm_ix b with
        | some n => some (.inr (66, n))
        | none => none)
      | _ => none)
    | _ => none, fun _ _ => some [.ofNat 48, .ofNat 58])]
  | false => []))), [8, 82, 140], 2718, vm_inst 16 2557 vt_898 vf_898 vd_898)
theorem vx_898_0 : vm_chk bt_152 [153] vk_898 49 vc_898 0 23 = true := by decide +kernel
theorem vx_898_1 : vm_chk bt_152 [153] vk_898 49 vc_898 23 23 = true := by decide +kernel
theorem vx_898_2 : vm_chk bt_152 [153] vk_898 49 vc_898 46 23 = true := by decide +kernel
theorem vx_898_3 : vm_chk bt_152 [153] vk_898 49 vc_898 69 23 = true := by decide +kernel
theorem vx_898_4 : vm_chk bt_152 [153] vk_898 49 vc_898 92 23 = true := by decide +kernel
theorem vx_898_5 : vm_chk bt_152 [153] vk_898 49 vc_898 115 23 = true := by decide +kernel
theorem vx_898_6 : vm_chk bt_152 [153] vk_898 49 vc_898 138 23 = true := by decide +kernel
theorem vx_898_7 : vm_chk bt_152 [153] vk_898 49 vc_898 161 7 = true := by decide +kernel
theorem vx_898_8 : vm_chk bt_152 [153] vk_898 49 vc_898 168 6 = true := by decide +kernel
theorem vx_898_9 : vm_chk bt_152 [153] vk_898 49 vc_898 174 7 = true := by decide +kernel
theorem vx_898_10 : vm_chk bt_152 [153] vk_898 49 vc_898 181 5 = true := by decide +kernel
theorem vx_898_11 : vm_chk bt_152 [153] vk_898 49 vc_898 186 5 = true := by decide +kernel
theorem vx_898_12 : vm_chk bt_152 [153] vk_898 49 vc_898 191 7 = true := by decide +kernel
theorem vx_898_13 : vm_chk bt_152 [153] vk_898 49 vc_898 198 6 = true := by decide +kernel
theorem vx_898_14 : vm_chk bt_152 [153] vk_898 49 vc_898 204 7 = true := by decide +kernel
theorem vx_898_15 : vm_chk bt_152 [153] vk_898 49 vc_898 211 5 = true := by decide +kernel
theorem vx_898_16 : vm_chk bt_152 [153] vk_898 49 vc_898 216 7 = true := by decide +kernel
theorem vx_898_17 : vm_chk bt_152 [153] vk_898 49 vc_898 223 4 = true := by decide +kernel
theorem vx_898_18 : vm_chk bt_152 [153] vk_898 49 vc_898 227 5 = true := by decide +kernel
theorem vx_898_19 : vm_chk bt_152 [153] vk_898 49 vc_898 232 7 = true := by decide +kernel
theorem vx_898_20 : vm_chk bt_152 [153] vk_898 49 vc_898 239 5 = true := by decide +kernel
theorem vx_898_21 : vm_chk bt_152 [153] vk_898 49 vc_898 244 7 = true := by decide +kernel
theorem vx_898_22 : vm_chk bt_152 [153] vk_898 49 vc_898 251 4 = true := by decide +kernel
theorem vx_898_23 : vm_chk bt_152 [153] vk_898 49 vc_898 255 5 = true := by decide +kernel
theorem vx_898_24 : vm_chk bt_152 [153] vk_898 49 vc_898 260 7 = true := by decide +kernel
theorem vx_898_25 : vm_chk bt_152 [153] vk_898 49 vc_898 267 5 = true := by decide +kernel
theorem vx_898_26 : vm_chk bt_152 [153] vk_898 49 vc_898 272 7 = true := by decide +kernel
theorem vx_898_27 : vm_chk bt_152 [153] vk_898 49 vc_898 279 4 = true := by decide +kernel
theorem vx_898_28 : vm_chk bt_152 [153] vk_898 49 vc_898 283 5 = true := by decide +kernel
theorem vx_898_29 : vm_chk bt_152 [153] vk_898 49 vc_898 288 7 = true := by decide +kernel
theorem vx_898_30 : vm_chk bt_152 [153] vk_898 49 vc_898 295 5 = true := by decide +kernel
theorem vx_898_31 : vm_chk bt_152 [153] vk_898 49 vc_898 300 7 = true := by decide +kernel
theorem vx_898_32 : vm_chk bt_152 [153] vk_898 49 vc_898 307 4 = true := by decide +kernel
theorem vx_898_33 : vm_chk bt_152 [153] vk_898 49 vc_898 311 5 = true := by decide +kernel
theorem vx_898_34 : vm_chk bt_152 [153] vk_898 49 vc_898 316 7 = true := by decide +kernel
theorem vx_898_35 : vm_chk bt_152 [153] vk_898 49 vc_898 323 5 = true := by decide +kernel
theorem vx_898_36 : vm_chk bt_152 [153] vk_898 49 vc_898 328 7 = true := by decide +kernel
theorem vx_898_37 : vm_chk bt_152 [153] vk_898 49 vc_898 335 4 = true := by decide +kernel
theorem vx_898_38 : vm_chk bt_152 [153] vk_898 49 vc_898 339 5 = true := by decide +kernel
theorem vx_898_39 : vm_chk bt_152 [153] vk_898 49 vc_898 344 7 = true := by decide +kernel
theorem vx_898_40 : vm_chk bt_152 [153] vk_898 49 vc_898 351 5 = true := by decide +kernel
theorem vx_898_41 : vm_chk bt_152 [153] vk_898 49 vc_898 356 7 = true := by decide +kernel
theorem vx_898_42 : vm_chk bt_152 [153] vk_898 49 vc_898 363 4 = true := by decide +kernel
theorem vx_898_43 : vm_chk bt_152 [153] vk_898 49 vc_898 367 5 = true := by decide +kernel
theorem vx_898_44 : vm_chk bt_152 [153] vk_898 49 vc_898 372 7 = true := by decide +kernel
theorem vx_898_45 : vm_chk bt_152 [153] vk_898 49 vc_898 379 5 = true := by decide +kernel
theorem vx_898_46 : vm_chk bt_152 [153] vk_898 49 vc_898 384 7 = true := by decide +kernel
theorem vx_898_47 : vm_chk bt_152 [153] vk_898 49 vc_898 391 4 = true := by decide +kernel
theorem vx_898_48 : vm_chk bt_152 [153] vk_898 49 vc_898 395 5 = true := by decide +kernel
theorem vx_898_49 : vm_chk bt_152 [153] vk_898 49 vc_898 400 7 = true := by decide +kernel
theorem vx_898_50 : vm_chk bt_152 [153] vk_898 49 vc_898 407 5 = true := by decide +kernel
theorem vx_898_51 : vm_chk bt_152 [153] vk_898 49 vc_898 412 7 = true := by decide +kernel
theorem vx_898_52 : vm_chk bt_152 [153] vk_898 49 vc_898 419 4 = true := by decide +kernel
theorem vx_898_53 : vm_chk bt_152 [153] vk_898 49 vc_898 423 5 = true := by decide +kernel
theorem vx_898_54 : vm_chk bt_152 [153] vk_898 49 vc_898 428 7 = true := by decide +kernel
theorem vx_898_55 : vm_chk bt_152 [153] vk_898 49 vc_898 435 5 = true := by decide +kernel
theorem vx_898_56 : vm_chk bt_152 [153] vk_898 49 vc_898 440 7 = true := by decide +kernel
theorem vx_898_57 : vm_chk bt_152 [153] vk_898 49 vc_898 447 4 = true := by decide +kernel
theorem vx_898_58 : vm_chk bt_152 [153] vk_898 49 vc_898 451 5 = true := by decide +kernel
theorem vx_898_59 : vm_chk bt_152 [153] vk_898 49 vc_898 456 7 = true := by decide +kernel
theorem vx_898_60 : vm_chk bt_152 [153] vk_898 49 vc_898 463 5 = true := by decide +kernel
theorem vx_898_61 : vm_chk bt_152 [153] vk_898 49 vc_898 468 7 = true := by decide +kernel
theorem vx_898_62 : vm_chk bt_152 [153] vk_898 49 vc_898 475 4 = true := by decide +kernel
theorem vx_898_63 : vm_chk bt_152 [153] vk_898 49 vc_898 479 5 = true := by decide +kernel
theorem vx_898_64 : vm_chk bt_152 [153] vk_898 49 vc_898 484 7 = true := by decide +kernel
theorem vx_898_65 : vm_chk bt_152 [153] vk_898 49 vc_898 491 5 = true := by decide +kernel
theorem vx_898_66 : vm_chk bt_152 [153] vk_898 49 vc_898 496 7 = true := by decide +kernel
theorem vx_898_67 : vm_chk bt_152 [153] vk_898 49 vc_898 503 4 = true := by decide +kernel
theorem vx_898_68 : vm_chk bt_152 [153] vk_898 49 vc_898 507 5 = true := by decide +kernel
theorem vx_898_69 : vm_chk bt_152 [153] vk_898 49 vc_898 512 7 = true := by decide +kernel
theorem vx_898_70 : vm_chk bt_152 [153] vk_898 49 vc_898 519 5 = true := by decide +kernel
theorem vx_898_71 : vm_chk bt_152 [153] vk_898 49 vc_898 524 7 = true := by decide +kernel
theorem vx_898_72 : vm_chk bt_152 [153] vk_898 49 vc_898 531 4 = true := by decide +kernel
theorem vx_898_73 : vm_chk bt_152 [153] vk_898 49 vc_898 535 5 = true := by decide +kernel
theorem vx_898_74 : vm_chk bt_152 [153] vk_898 49 vc_898 540 7 = true := by decide +kernel
theorem vx_898_75 : vm_chk bt_152 [153] vk_898 49 vc_898 547 5 = true := by decide +kernel
theorem vx_898_76 : vm_chk bt_152 [153] vk_898 49 vc_898 552 7 = true := by decide +kernel
theorem vx_898_77 : vm_chk bt_152 [153] vk_898 49 vc_898 559 4 = true := by decide +kernel
theorem vx_898_78 : vm_chk bt_152 [153] vk_898 49 vc_898 563 5 = true := by decide +kernel
theorem vx_898_79 : vm_chk bt_152 [153] vk_898 49 vc_898 568 7 = true := by decide +kernel
theorem vx_898_80 : vm_chk bt_152 [153] vk_898 49 vc_898 575 5 = true := by decide +kernel
theorem vx_898_81 : vm_chk bt_152 [153] vk_898 49 vc_898 580 7 = true := by decide +kernel
theorem vx_898_82 : vm_chk bt_152 [153] vk_898 49 vc_898 587 4 = true := by decide +kernel
theorem vx_898_83 : vm_chk bt_152 [153] vk_898 49 vc_898 591 5 = true := by decide +kernel
theorem vx_898_84 : vm_chk bt_152 [153] vk_898 49 vc_898 596 7 = true := by decide +kernel
theorem vx_898_85 : vm_chk bt_152 [153] vk_898 49 vc_898 603 5 = true := by decide +kernel
theorem vx_898_86 : vm_chk bt_152 [153] vk_898 49 vc_898 608 7 = true := by decide +kernel
theorem vx_898_87 : vm_chk bt_152 [153] vk_898 49 vc_898 615 4 = true := by decide +kernel
theorem vx_898_88 : vm_chk bt_152 [153] vk_898 49 vc_898 619 5 = true := by decide +kernel
theorem vx_898_89 : vm_chk bt_152 [153] vk_898 49 vc_898 624 7 = true := by decide +kernel
theorem vx_898_90 : vm_chk bt_152 [153] vk_898 49 vc_898 631 5 = true := by decide +kernel
theorem vx_898_91 : vm_chk bt_152 [153] vk_898 49 vc_898 636 7 = true := by decide +kernel
theorem vx_898_92 : vm_chk bt_152 [153] vk_898 49 vc_898 643 4 = true := by decide +kernel
theorem vx_898_93 : vm_chk bt_152 [153] vk_898 49 vc_898 647 5 = true := by decide +kernel
theorem vx_898_94 : vm_chk bt_152 [153] vk_898 49 vc_898 652 7 = true := by decide +kernel
theorem vx_898_95 : vm_chk bt_152 [153] vk_898 49 vc_898 659 5 = true := by decide +kernel
theorem vx_898_96 : vm_chk bt_152 [153] vk_898 49 vc_898 664 7 = true := by decide +kernel
theorem vx_898_97 : vm_chk bt_152 [153] vk_898 49 vc_898 671 4 = true := by decide +kernel
theorem vx_898_98 : vm_chk bt_152 [153] vk_898 49 vc_898 675 5 = true := by decide +kernel
theorem vx_898_99 : vm_chk bt_152 [153] vk_898 49 vc_898 680 7 = true := by decide +kernel
theorem vx_898_100 : vm_chk bt_152 [153] vk_898 49 vc_898 687 5 = true := by decide +kernel
theorem vx_898_101 : vm_chk bt_152 [153] vk_898 49 vc_898 692 7 = true := by decide +kernel
theorem vx_898_102 : vm_chk bt_152 [153] vk_898 49 vc_898 699 4 = true := by decide +kernel
theorem vx_898_103 : vm_chk bt_152 [153] vk_898 49 vc_898 703 5 = true := by decide +kernel
theorem vx_898_104 : vm_chk bt_152 [153] vk_898 49 vc_898 708 7 = true := by decide +kernel
theorem vx_898_105 : vm_chk bt_152 [153] vk_898 49 vc_898 715 5 = true := by decide +kernel
theorem vx_898_106 : vm_chk bt_152 [153] vk_898 49 vc_898 720 7 = true := by decide +kernel
theorem vx_898_107 : vm_chk bt_152 [153] vk_898 49 vc_898 727 4 = true := by decide +kernel
theorem vx_898_108 : vm_chk bt_152 [153] vk_898 49 vc_898 731 5 = true := by decide +kernel
theorem vx_898_109 : vm_chk bt_152 [153] vk_898 49 vc_898 736 7 = true := by decide +kernel
theorem vx_898_110 : vm_chk bt_152 [153] vk_898 49 vc_898 743 5 = true := by decide +kernel
theorem vx_898_111 : vm_chk bt_152 [153] vk_898 49 vc_898 748 7 = true := by decide +kernel
theorem vx_898_112 : vm_chk bt_152 [153] vk_898 49 vc_898 755 4 = true := by decide +kernel
theorem vx_898_113 : vm_chk bt_152 [153] vk_898 49 vc_898 759 5 = true := by decide +kernel
theorem vx_898_114 : vm_chk bt_152 [153] vk_898 49 vc_898 764 7 = true := by decide +kernel
theorem vx_898_115 : vm_chk bt_152 [153] vk_898 49 vc_898 771 5 = true := by decide +kernel
theorem vx_898_116 : vm_chk bt_152 [153] vk_898 49 vc_898 776 7 = true := by decide +kernel
theorem vx_898_117 : vm_chk bt_152 [153] vk_898 49 vc_898 783 4 = true := by decide +kernel
theorem vx_898_118 : vm_chk bt_152 [153] vk_898 49 vc_898 787 5 = true := by decide +kernel
theorem vx_898_119 : vm_chk bt_152 [153] vk_898 49 vc_898 792 7 = true := by decide +kernel
theorem vx_898_120 : vm_chk bt_152 [153] vk_898 49 vc_898 799 5 = true := by decide +kernel
theorem vx_898_121 : vm_chk bt_152 [153] vk_898 49 vc_898 804 7 = true := by decide +kernel
theorem vx_898_122 : vm_chk bt_152 [153] vk_898 49 vc_898 811 4 = true := by decide +kernel
theorem vx_898_123 : vm_chk bt_152 [153] vk_898 49 vc_898 815 5 = true := by decide +kernel
theorem vx_898_124 : vm_chk bt_152 [153] vk_898 49 vc_898 820 7 = true := by decide +kernel
theorem vx_898_125 : vm_chk bt_152 [153] vk_898 49 vc_898 827 5 = true := by decide +kernel
theorem vx_898_126 : vm_chk bt_152 [153] vk_898 49 vc_898 832 7 = true := by decide +kernel
theorem vx_898_127 : vm_chk bt_152 [153] vk_898 49 vc_898 839 4 = true := by decide +kernel
theorem vx_898_128 : vm_chk bt_152 [153] vk_898 49 vc_898 843 5 = true := by decide +kernel
theorem vx_898_129 : vm_chk bt_152 [153] vk_898 49 vc_898 848 7 = true := by decide +kernel
theorem vx_898_130 : vm_chk bt_152 [153] vk_898 49 vc_898 855 5 = true := by decide +kernel
theorem vx_898_131 : vm_chk bt_152 [153] vk_898 49 vc_898 860 7 = true := by decide +kernel
theorem vx_898_132 : vm_chk bt_152 [153] vk_898 49 vc_898 867 4 = true := by decide +kernel
theorem vx_898_133 : vm_chk bt_152 [153] vk_898 49 vc_898 871 5 = true := by decide +kernel
theorem vx_898_134 : vm_chk bt_152 [153] vk_898 49 vc_898 876 7 = true := by decide +kernel
theorem vx_898_135 : vm_chk bt_152 [153] vk_898 49 vc_898 883 5 = true := by decide +kernel
theorem vx_898_136 : vm_chk bt_152 [153] vk_898 49 vc_898 888 7 = true := by decide +kernel
theorem vx_898_137 : vm_chk bt_152 [153] vk_898 49 vc_898 895 4 = true := by decide +kernel
theorem vx_898_138 : vm_chk bt_152 [153] vk_898 49 vc_898 899 5 = true := by decide +kernel
theorem vx_898_139 : vm_chk bt_152 [153] vk_898 49 vc_898 904 7 = true := by decide +kernel
theorem vx_898_140 : vm_chk bt_152 [153] vk_898 49 vc_898 911 5 = true := by decide +kernel
theorem vx_898_141 : vm_chk bt_152 [153] vk_898 49 vc_898 916 7 = true := by decide +kernel
theorem vx_898_142 : vm_chk bt_152 [153] vk_898 49 vc_898 923 4 = true := by decide +kernel
theorem vx_898_143 : vm_chk bt_152 [153] vk_898 49 vc_898 927 5 = true := by decide +kernel
theorem vx_898_144 : vm_chk bt_152 [153] vk_898 49 vc_898 932 7 = true := by decide +kernel
theorem vx_898_145 : vm_chk bt_152 [153] vk_898 49 vc_898 939 5 = true := by decide +kernel
theorem vx_898_146 : vm_chk bt_152 [153] vk_898 49 vc_898 944 7 = true := by decide +kernel
theorem vx_898_147 : vm_chk bt_152 [153] vk_898 49 vc_898 951 4 = true := by decide +kernel
theorem vx_898_148 : vm_chk bt_152 [153] vk_898 49 vc_898 955 5 = true := by decide +kernel
theorem vx_898_149 : vm_chk bt_152 [153] vk_898 49 vc_898 960 7 = true := by decide +kernel
theorem vx_898_150 : vm_chk bt_152 [153] vk_898 49 vc_898 967 5 = true := by decide +kernel
theorem vx_898_151 : vm_chk bt_152 [153] vk_898 49 vc_898 972 7 = true := by decide +kernel
theorem vx_898_152 : vm_chk bt_152 [153] vk_898 49 vc_898 979 4 = true := by decide +kernel
theorem vx_898_153 : vm_chk bt_152 [153] vk_898 49 vc_898 983 5 = true := by decide +kernel
theorem vx_898_154 : vm_chk bt_152 [153] vk_898 49 vc_898 988 7 = true := by decide +kernel
theorem vx_898_155 : vm_chk bt_152 [153] vk_898 49 vc_898 995 5 = true := by decide +kernel
theorem vx_898_156 : vm_chk bt_152 [153] vk_898 49 vc_898 1000 7 = true := by decide +kernel
theorem vx_898_157 : vm_chk bt_152 [153] vk_898 49 vc_898 1007 4 = true := by decide +kernel
theorem vx_898_158 : vm_chk bt_152 [153] vk_898 49 vc_898 1011 5 = true := by decide +kernel
theorem vx_898_159 : vm_chk bt_152 [153] vk_898 49 vc_898 1016 7 = true := by decide +kernel
theorem vx_898_160 : vm_chk bt_152 [153] vk_898 49 vc_898 1023 5 = true := by decide +kernel
theorem vx_898_161 : vm_chk bt_152 [153] vk_898 49 vc_898 1028 7 = true := by decide +kernel
theorem vx_898_162 : vm_chk bt_152 [153] vk_898 49 vc_898 1035 4 = true := by decide +kernel
theorem vx_898_163 : vm_chk bt_152 [153] vk_898 49 vc_898 1039 5 = true := by decide +kernel
theorem vx_898_164 : vm_chk bt_152 [153] vk_898 49 vc_898 1044 7 = true := by decide +kernel
theorem vx_898_165 : vm_chk bt_152 [153] vk_898 49 vc_898 1051 5 = true := by decide +kernel
theorem vx_898_166 : vm_chk bt_152 [153] vk_898 49 vc_898 1056 7 = true := by decide +kernel
theorem vx_898_167 : vm_chk bt_152 [153] vk_898 49 vc_898 1063 4 = true := by decide +kernel
theorem vx_898_168 : vm_chk bt_152 [153] vk_898 49 vc_898 1067 5 = true := by decide +kernel
theorem vx_898_169 : vm_chk bt_152 [153] vk_898 49 vc_898 1072 7 = true := by decide +kernel
theorem vx_898_170 : vm_chk bt_152 [153] vk_898 49 vc_898 1079 5 = true := by decide +kernel
theorem vx_898_171 : vm_chk bt_152 [153] vk_898 49 vc_898 1084 7 = true := by decide +kernel
theorem vx_898_172 : vm_chk bt_152 [153] vk_898 49 vc_898 1091 4 = true := by decide +kernel
theorem vx_898_173 : vm_chk bt_152 [153] vk_898 49 vc_898 1095 5 = true := by decide +kernel
theorem vx_898_174 : vm_chk bt_152 [153] vk_898 49 vc_898 1100 7 = true := by decide +kernel
theorem vx_898_175 : vm_chk bt_152 [153] vk_898 49 vc_898 1107 5 = true := by decide +kernel
theorem vx_898_176 : vm_chk bt_152 [153] vk_898 49 vc_898 1112 7 = true := by decide +kernel
theorem vx_898_177 : vm_chk bt_152 [153] vk_898 49 vc_898 1119 4 = true := by decide +kernel
theorem vx_898_178 : vm_chk bt_152 [153] vk_898 49 vc_898 1123 5 = true := by decide +kernel
theorem vx_898_179 : vm_chk bt_152 [153] vk_898 49 vc_898 1128 7 = true := by decide +kernel
theorem vx_898_180 : vm_chk bt_152 [153] vk_898 49 vc_898 1135 5 = true := by decide +kernel
theorem vx_898_181 : vm_chk bt_152 [153] vk_898 49 vc_898 1140 7 = true := by decide +kernel
theorem vx_898_182 : vm_chk bt_152 [153] vk_898 49 vc_898 1147 4 = true := by decide +kernel
theorem vx_898_183 : vm_chk bt_152 [153] vk_898 49 vc_898 1151 5 = true := by decide +kernel
theorem vx_898_184 : vm_chk bt_152 [153] vk_898 49 vc_898 1156 7 = true := by decide +kernel
theorem vx_898_185 : vm_chk bt_152 [153] vk_898 49 vc_898 1163 5 = true := by decide +kernel
theorem vx_898_186 : vm_chk bt_152 [153] vk_898 49 vc_898 1168 7 = true := by decide +kernel
theorem vx_898_187 : vm_chk bt_152 [153] vk_898 49 vc_898 1175 4 = true := by decide +kernel
theorem vx_898_188 : vm_chk bt_152 [153] vk_898 49 vc_898 1179 5 = true := by decide +kernel
theorem vx_898_189 : vm_chk bt_152 [153] vk_898 49 vc_898 1184 7 = true := by decide +kernel
theorem vx_898_190 : vm_chk bt_152 [153] vk_898 49 vc_898 1191 5 = true := by decide +kernel
theorem vx_898_191 : vm_chk bt_152 [153] vk_898 49 vc_898 1196 7 = true := by decide +kernel
theorem vx_898_192 : vm_chk bt_152 [153] vk_898 49 vc_898 1203 4 = true := by decide +kernel
theorem vx_898_193 : vm_chk bt_152 [153] vk_898 49 vc_898 1207 5 = true := by decide +kernel
theorem vx_898_194 : vm_chk bt_152 [153] vk_898 49 vc_898 1212 7 = true := by decide +kernel
theorem vx_898_195 : vm_chk bt_152 [153] vk_898 49 vc_898 1219 5 = true := by decide +kernel
theorem vx_898_196 : vm_chk bt_152 [153] vk_898 49 vc_898 1224 7 = true := by decide +kernel
theorem vx_898_197 : vm_chk bt_152 [153] vk_898 49 vc_898 1231 4 = true := by decide +kernel
theorem vx_898_198 : vm_chk bt_152 [153] vk_898 49 vc_898 1235 5 = true := by decide +kernel
theorem vx_898_199 : vm_chk bt_152 [153] vk_898 49 vc_898 1240 7 = true := by decide +kernel
theorem vx_898_200 : vm_chk bt_152 [153] vk_898 49 vc_898 1247 5 = true := by decide +kernel
theorem vx_898_201 : vm_chk bt_152 [153] vk_898 49 vc_898 1252 7 = true := by decide +kernel
theorem vx_898_202 : vm_chk bt_152 [153] vk_898 49 vc_898 1259 4 = true := by decide +kernel
theorem vx_898_203 : vm_chk bt_152 [153] vk_898 49 vc_898 1263 5 = true := by decide +kernel
theorem vx_898_204 : vm_chk bt_152 [153] vk_898 49 vc_898 1268 7 = true := by decide +kernel
theorem vx_898_205 : vm_chk bt_152 [153] vk_898 49 vc_898 1275 5 = true := by decide +kernel
theorem vx_898_206 : vm_chk bt_152 [153] vk_898 49 vc_898 1280 7 = true := by decide +kernel
theorem vx_898_207 : vm_chk bt_152 [153] vk_898 49 vc_898 1287 4 = true := by decide +kernel
theorem vx_898_208 : vm_chk bt_152 [153] vk_898 49 vc_898 1291 5 = true := by decide +kernel
theorem vx_898_209 : vm_chk bt_152 [153] vk_898 49 vc_898 1296 7 = true := by decide +kernel
theorem vx_898_210 : vm_chk bt_152 [153] vk_898 49 vc_898 1303 5 = true := by decide +kernel
theorem vx_898_211 : vm_chk bt_152 [153] vk_898 49 vc_898 1308 7 = true := by decide +kernel
theorem vx_898_212 : vm_chk bt_152 [153] vk_898 49 vc_898 1315 4 = true := by decide +kernel
theorem vx_898_213 : vm_chk bt_152 [153] vk_898 49 vc_898 1319 5 = true := by decide +kernel
theorem vx_898_214 : vm_chk bt_152 [153] vk_898 49 vc_898 1324 7 = true := by decide +kernel
theorem vx_898_215 : vm_chk bt_152 [153] vk_898 49 vc_898 1331 5 = true := by decide +kernel
theorem vx_898_216 : vm_chk bt_152 [153] vk_898 49 vc_898 1336 7 = true := by decide +kernel
theorem vx_898_217 : vm_chk bt_152 [153] vk_898 49 vc_898 1343 4 = true := by decide +kernel
theorem vx_898_218 : vm_chk bt_152 [153] vk_898 49 vc_898 1347 5 = true := by decide +kernel
theorem vx_898_219 : vm_chk bt_152 [153] vk_898 49 vc_898 1352 7 = true := by decide +kernel
theorem vx_898_220 : vm_chk bt_152 [153] vk_898 49 vc_898 1359 5 = true := by decide +kernel
theorem vx_898_221 : vm_chk bt_152 [153] vk_898 49 vc_898 1364 7 = true := by decide +kernel
theorem vx_898_222 : vm_chk bt_152 [153] vk_898 49 vc_898 1371 4 = true := by decide +kernel
theorem vx_898_223 : vm_chk bt_152 [153] vk_898 49 vc_898 1375 5 = true := by decide +kernel
theorem vx_898_224 : vm_chk bt_152 [153] vk_898 49 vc_898 1380 7 = true := by decide +kernel
theorem vx_898_225 : vm_chk bt_152 [153] vk_898 49 vc_898 1387 5 = true := by decide +kernel
theorem vx_898_226 : vm_chk bt_152 [153] vk_898 49 vc_898 1392 7 = true := by decide +kernel
theorem vx_898_227 : vm_chk bt_152 [153] vk_898 49 vc_898 1399 4 = true := by decide +kernel
theorem vx_898_228 : vm_chk bt_152 [153] vk_898 49 vc_898 1403 5 = true := by decide +kernel
theorem vx_898_229 : vm_chk bt_152 [153] vk_898 49 vc_898 1408 7 = true := by decide +kernel
theorem vx_898_230 : vm_chk bt_152 [153] vk_898 49 vc_898 1415 5 = true := by decide +kernel
theorem vx_898_231 : vm_chk bt_152 [153] vk_898 49 vc_898 1420 7 = true := by decide +kernel
theorem vx_898_232 : vm_chk bt_152 [153] vk_898 49 vc_898 1427 4 = true := by decide +kernel
theorem vx_898_233 : vm_chk bt_152 [153] vk_898 49 vc_898 1431 5 = true := by decide +kernel
theorem vx_898_234 : vm_chk bt_152 [153] vk_898 49 vc_898 1436 7 = true := by decide +kernel
theorem vx_898_235 : vm_chk bt_152 [153] vk_898 49 vc_898 1443 5 = true := by decide +kernel
theorem vx_898_236 : vm_chk bt_152 [153] vk_898 49 vc_898 1448 7 = true := by decide +kernel
theorem vx_898_237 : vm_chk bt_152 [153] vk_898 49 vc_898 1455 4 = true := by decide +kernel
theorem vx_898_238 : vm_chk bt_152 [153] vk_898 49 vc_898 1459 5 = true := by decide +kernel
theorem vx_898_239 : vm_chk bt_152 [153] vk_898 49 vc_898 1464 7 = true := by decide +kernel
theorem vx_898_240 : vm_chk bt_152 [153] vk_898 49 vc_898 1471 5 = true := by decide +kernel
theorem vx_898_241 : vm_chk bt_152 [153] vk_898 49 vc_898 1476 7 = true := by decide +kernel
theorem vx_898_242 : vm_chk bt_152 [153] vk_898 49 vc_898 1483 4 = true := by decide +kernel
theorem vx_898_243 : vm_chk bt_152 [153] vk_898 49 vc_898 1487 5 = true := by decide +kernel
theorem vx_898_244 : vm_chk bt_152 [153] vk_898 49 vc_898 1492 7 = true := by decide +kernel
theorem vx_898_245 : vm_chk bt_152 [153] vk_898 49 vc_898 1499 5 = true := by decide +kernel
theorem vx_898_246 : vm_chk bt_152 [153] vk_898 49 vc_898 1504 7 = true := by decide +kernel
theorem vx_898_247 : vm_chk bt_152 [153] vk_898 49 vc_898 1511 4 = true := by decide +kernel
theorem vx_898_248 : vm_chk bt_152 [153] vk_898 49 vc_898 1515 5 = true := by decide +kernel
theorem vx_898_249 : vm_chk bt_152 [153] vk_898 49 vc_898 1520 7 = true := by decide +kernel
theorem vx_898_250 : vm_chk bt_152 [153] vk_898 49 vc_898 1527 5 = true := by decide +kernel
theorem vx_898_251 : vm_chk bt_152 [153] vk_898 49 vc_898 1532 7 = true := by decide +kernel
theorem vx_898_252 : vm_chk bt_152 [153] vk_898 49 vc_898 1539 4 = true := by decide +kernel
theorem vx_898_253 : vm_chk bt_152 [153] vk_898 49 vc_898 1543 5 = true := by decide +kernel
theorem vx_898_254 : vm_chk bt_152 [153] vk_898 49 vc_898 1548 7 = true := by decide +kernel
theorem vx_898_255 : vm_chk bt_152 [153] vk_898 49 vc_898 1555 5 = true := by decide +kernel
theorem vx_898_256 : vm_chk bt_152 [153] vk_898 49 vc_898 1560 7 = true := by decide +kernel
theorem vx_898_257 : vm_chk bt_152 [153] vk_898 49 vc_898 1567 4 = true := by decide +kernel
theorem vx_898_258 : vm_chk bt_152 [153] vk_898 49 vc_898 1571 5 = true := by decide +kernel
theorem vx_898_259 : vm_chk bt_152 [153] vk_898 49 vc_898 1576 7 = true := by decide +kernel
theorem vx_898_260 : vm_chk bt_152 [153] vk_898 49 vc_898 1583 5 = true := by decide +kernel
theorem vx_898_261 : vm_chk bt_152 [153] vk_898 49 vc_898 1588 7 = true := by decide +kernel
theorem vx_898_262 : vm_chk bt_152 [153] vk_898 49 vc_898 1595 4 = true := by decide +kernel
theorem vx_898_263 : vm_chk bt_152 [153] vk_898 49 vc_898 1599 5 = true := by decide +kernel
theorem vx_898_264 : vm_chk bt_152 [153] vk_898 49 vc_898 1604 7 = true := by decide +kernel
theorem vx_898_265 : vm_chk bt_152 [153] vk_898 49 vc_898 1611 5 = true := by decide +kernel
theorem vx_898_266 : vm_chk bt_152 [153] vk_898 49 vc_898 1616 7 = true := by decide +kernel
theorem vx_898_267 : vm_chk bt_152 [153] vk_898 49 vc_898 1623 4 = true := by decide +kernel
theorem vx_898_268 : vm_chk bt_152 [153] vk_898 49 vc_898 1627 5 = true := by decide +kernel
theorem vx_898_269 : vm_chk bt_152 [153] vk_898 49 vc_898 1632 7 = true := by decide +kernel
theorem vx_898_270 : vm_chk bt_152 [153] vk_898 49 vc_898 1639 5 = true := by decide +kernel
theorem vx_898_271 : vm_chk bt_152 [153] vk_898 49 vc_898 1644 7 = true := by decide +kernel
theorem vx_898_272 : vm_chk bt_152 [153] vk_898 49 vc_898 1651 4 = true := by decide +kernel
theorem vx_898_273 : vm_chk bt_152 [153] vk_898 49 vc_898 1655 5 = true := by decide +kernel
theorem vx_898_274 : vm_chk bt_152 [153] vk_898 49 vc_898 1660 7 = true := by decide +kernel
theorem vx_898_275 : vm_chk bt_152 [153] vk_898 49 vc_898 1667 5 = true := by decide +kernel
theorem vx_898_276 : vm_chk bt_152 [153] vk_898 49 vc_898 1672 7 = true := by decide +kernel
theorem vx_898_277 : vm_chk bt_152 [153] vk_898 49 vc_898 1679 4 = true := by decide +kernel
theorem vx_898_278 : vm_chk bt_152 [153] vk_898 49 vc_898 1683 5 = true := by decide +kernel
theorem vx_898_279 : vm_chk bt_152 [153] vk_898 49 vc_898 1688 7 = true := by decide +kernel
theorem vx_898_280 : vm_chk bt_152 [153] vk_898 49 vc_898 1695 5 = true := by decide +kernel
theorem vx_898_281 : vm_chk bt_152 [153] vk_898 49 vc_898 1700 7 = true := by decide +kernel
theorem vx_898_282 : vm_chk bt_152 [153] vk_898 49 vc_898 1707 4 = true := by decide +kernel
theorem vx_898_283 : vm_chk bt_152 [153] vk_898 49 vc_898 1711 5 = true := by decide +kernel
theorem vx_898_284 : vm_chk bt_152 [153] vk_898 49 vc_898 1716 7 = true := by decide +kernel
theorem vx_898_285 : vm_chk bt_152 [153] vk_898 49 vc_898 1723 5 = true := by decide +kernel
theorem vx_898_286 : vm_chk bt_152 [153] vk_898 49 vc_898 1728 7 = true := by decide +kernel
theorem vx_898_287 : vm_chk bt_152 [153] vk_898 49 vc_898 1735 4 = true := by decide +kernel
theorem vx_898_288 : vm_chk bt_152 [153] vk_898 49 vc_898 1739 5 = true := by decide +kernel
theorem vx_898_289 : vm_chk bt_152 [153] vk_898 49 vc_898 1744 7 = true := by decide +kernel
theorem vx_898_290 : vm_chk bt_152 [153] vk_898 49 vc_898 1751 5 = true := by decide +kernel
theorem vx_898_291 : vm_chk bt_152 [153] vk_898 49 vc_898 1756 7 = true := by decide +kernel
theorem vx_898_292 : vm_chk bt_152 [153] vk_898 49 vc_898 1763 4 = true := by decide +kernel
theorem vx_898_293 : vm_chk bt_152 [153] vk_898 49 vc_898 1767 5 = true := by decide +kernel
theorem vx_898_294 : vm_chk bt_152 [153] vk_898 49 vc_898 1772 7 = true := by decide +kernel
theorem vx_898_295 : vm_chk bt_152 [153] vk_898 49 vc_898 1779 5 = true := by decide +kernel
theorem vx_898_296 : vm_chk bt_152 [153] vk_898 49 vc_898 1784 7 = true := by decide +kernel
theorem vx_898_297 : vm_chk bt_152 [153] vk_898 49 vc_898 1791 4 = true := by decide +kernel
theorem vx_898_298 : vm_chk bt_152 [153] vk_898 49 vc_898 1795 5 = true := by decide +kernel
theorem vx_898_299 : vm_chk bt_152 [153] vk_898 49 vc_898 1800 7 = true := by decide +kernel
theorem vx_898_300 : vm_chk bt_152 [153] vk_898 49 vc_898 1807 5 = true := by decide +kernel
theorem vx_898_301 : vm_chk bt_152 [153] vk_898 49 vc_898 1812 7 = true := by decide +kernel
theorem vx_898_302 : vm_chk bt_152 [153] vk_898 49 vc_898 1819 4 = true := by decide +kernel
theorem vx_898_303 : vm_chk bt_152 [153] vk_898 49 vc_898 1823 5 = true := by decide +kernel
theorem vx_898_304 : vm_chk bt_152 [153] vk_898 49 vc_898 1828 7 = true := by decide +kernel
theorem vx_898_305 : vm_chk bt_152 [153] vk_898 49 vc_898 1835 5 = true := by decide +kernel
theorem vx_898_306 : vm_chk bt_152 [153] vk_898 49 vc_898 1840 7 = true := by decide +kernel
theorem vx_898_307 : vm_chk bt_152 [153] vk_898 49 vc_898 1847 4 = true := by decide +kernel
theorem vx_898_308 : vm_chk bt_152 [153] vk_898 49 vc_898 1851 5 = true := by decide +kernel
theorem vx_898_309 : vm_chk bt_152 [153] vk_898 49 vc_898 1856 7 = true := by decide +kernel
theorem vx_898_310 : vm_chk bt_152 [153] vk_898 49 vc_898 1863 5 = true := by decide +kernel
theorem vx_898_311 : vm_chk bt_152 [153] vk_898 49 vc_898 1868 7 = true := by decide +kernel
theorem vx_898_312 : vm_chk bt_152 [153] vk_898 49 vc_898 1875 4 = true := by decide +kernel
theorem vx_898_313 : vm_chk bt_152 [153] vk_898 49 vc_898 1879 5 = true := by decide +kernel
theorem vx_898_314 : vm_chk bt_152 [153] vk_898 49 vc_898 1884 7 = true := by decide +kernel
theorem vx_898_315 : vm_chk bt_152 [153] vk_898 49 vc_898 1891 5 = true := by decide +kernel
theorem vx_898_316 : vm_chk bt_152 [153] vk_898 49 vc_898 1896 7 = true := by decide +kernel
theorem vx_898_317 : vm_chk bt_152 [153] vk_898 49 vc_898 1903 4 = true := by decide +kernel
theorem vx_898_318 : vm_chk bt_152 [153] vk_898 49 vc_898 1907 5 = true := by decide +kernel
theorem vx_898_319 : vm_chk bt_152 [153] vk_898 49 vc_898 1912 7 = true := by decide +kernel
theorem vx_898_320 : vm_chk bt_152 [153] vk_898 49 vc_898 1919 5 = true := by decide +kernel
theorem vx_898_321 : vm_chk bt_152 [153] vk_898 49 vc_898 1924 7 = true := by decide +kernel
theorem vx_898_322 : vm_chk bt_152 [153] vk_898 49 vc_898 1931 4 = true := by decide +kernel
theorem vx_898_323 : vm_chk bt_152 [153] vk_898 49 vc_898 1935 5 = true := by decide +kernel
theorem vx_898_324 : vm_chk bt_152 [153] vk_898 49 vc_898 1940 7 = true := by decide +kernel
theorem vx_898_325 : vm_chk bt_152 [153] vk_898 49 vc_898 1947 5 = true := by decide +kernel
theorem vx_898_326 : vm_chk bt_152 [153] vk_898 49 vc_898 1952 7 = true := by decide +kernel
theorem vx_898_327 : vm_chk bt_152 [153] vk_898 49 vc_898 1959 4 = true := by decide +kernel
theorem vx_898_328 : vm_chk bt_152 [153] vk_898 49 vc_898 1963 5 = true := by decide +kernel
theorem vx_898_329 : vm_chk bt_152 [153] vk_898 49 vc_898 1968 7 = true := by decide +kernel
theorem vx_898_330 : vm_chk bt_152 [153] vk_898 49 vc_898 1975 5 = true := by decide +kernel
theorem vx_898_331 : vm_chk bt_152 [153] vk_898 49 vc_898 1980 7 = true := by decide +kernel
theorem vx_898_332 : vm_chk bt_152 [153] vk_898 49 vc_898 1987 4 = true := by decide +kernel
theorem vx_898_333 : vm_chk bt_152 [153] vk_898 49 vc_898 1991 5 = true := by decide +kernel
theorem vx_898_334 : vm_chk bt_152 [153] vk_898 49 vc_898 1996 7 = true := by decide +kernel
theorem vx_898_335 : vm_chk bt_152 [153] vk_898 49 vc_898 2003 5 = true := by decide +kernel
theorem vx_898_336 : vm_chk bt_152 [153] vk_898 49 vc_898 2008 7 = true := by decide +kernel
theorem vx_898_337 : vm_chk bt_152 [153] vk_898 49 vc_898 2015 4 = true := by decide +kernel
theorem vx_898_338 : vm_chk bt_152 [153] vk_898 49 vc_898 2019 5 = true := by decide +kernel
theorem vx_898_339 : vm_chk bt_152 [153] vk_898 49 vc_898 2024 7 = true := by decide +kernel
theorem vx_898_340 : vm_chk bt_152 [153] vk_898 49 vc_898 2031 5 = true := by decide +kernel
theorem vx_898_341 : vm_chk bt_152 [153] vk_898 49 vc_898 2036 7 = true := by decide +kernel
theorem vx_898_342 : vm_chk bt_152 [153] vk_898 49 vc_898 2043 4 = true := by decide +kernel
theorem vx_898_343 : vm_chk bt_152 [153] vk_898 49 vc_898 2047 5 = true := by decide +kernel
theorem vx_898_344 : vm_chk bt_152 [153] vk_898 49 vc_898 2052 7 = true := by decide +kernel
theorem vx_898_345 : vm_chk bt_152 [153] vk_898 49 vc_898 2059 5 = true := by decide +kernel
theorem vx_898_346 : vm_chk bt_152 [153] vk_898 49 vc_898 2064 7 = true := by decide +kernel
theorem vx_898_347 : vm_chk bt_152 [153] vk_898 49 vc_898 2071 4 = true := by decide +kernel
theorem vx_898_348 : vm_chk bt_152 [153] vk_898 49 vc_898 2075 5 = true := by decide +kernel
theorem vx_898_349 : vm_chk bt_152 [153] vk_898 49 vc_898 2080 7 = true := by decide +kernel
theorem vx_898_350 : vm_chk bt_152 [153] vk_898 49 vc_898 2087 5 = true := by decide +kernel
theorem vx_898_351 : vm_chk bt_152 [153] vk_898 49 vc_898 2092 7 = true := by decide +kernel
theorem vx_898_352 : vm_chk bt_152 [153] vk_898 49 vc_898 2099 4 = true := by decide +kernel
theorem vx_898_353 : vm_chk bt_152 [153] vk_898 49 vc_898 2103 5 = true := by decide +kernel
theorem vx_898_354 : vm_chk bt_152 [153] vk_898 49 vc_898 2108 7 = true := by decide +kernel
theorem vx_898_355 : vm_chk bt_152 [153] vk_898 49 vc_898 2115 5 = true := by decide +kernel
theorem vx_898_356 : vm_chk bt_152 [153] vk_898 49 vc_898 2120 7 = true := by decide +kernel
theorem vx_898_357 : vm_chk bt_152 [153] vk_898 49 vc_898 2127 4 = true := by decide +kernel
theorem vx_898_358 : vm_chk bt_152 [153] vk_898 49 vc_898 2131 5 = true := by decide +kernel
theorem vx_898_359 : vm_chk bt_152 [153] vk_898 49 vc_898 2136 7 = true := by decide +kernel
theorem vx_898_360 : vm_chk bt_152 [153] vk_898 49 vc_898 2143 5 = true := by decide +kernel
theorem vx_898_361 : vm_chk bt_152 [153] vk_898 49 vc_898 2148 7 = true := by decide +kernel
theorem vx_898_362 : vm_chk bt_152 [153] vk_898 49 vc_898 2155 4 = true := by decide +kernel
theorem vx_898_363 : vm_chk bt_152 [153] vk_898 49 vc_898 2159 5 = true := by decide +kernel
theorem vx_898_364 : vm_chk bt_152 [153] vk_898 49 vc_898 2164 7 = true := by decide +kernel
theorem vx_898_365 : vm_chk bt_152 [153] vk_898 49 vc_898 2171 5 = true := by decide +kernel
theorem vx_898_366 : vm_chk bt_152 [153] vk_898 49 vc_898 2176 7 = true := by decide +kernel
theorem vx_898_367 : vm_chk bt_152 [153] vk_898 49 vc_898 2183 4 = true := by decide +kernel
theorem vx_898_368 : vm_chk bt_152 [153] vk_898 49 vc_898 2187 5 = true := by decide +kernel
theorem vx_898_369 : vm_chk bt_152 [153] vk_898 49 vc_898 2192 7 = true := by decide +kernel
theorem vx_898_370 : vm_chk bt_152 [153] vk_898 49 vc_898 2199 5 = true := by decide +kernel
theorem vx_898_371 : vm_chk bt_152 [153] vk_898 49 vc_898 2204 7 = true := by decide +kernel
theorem vx_898_372 : vm_chk bt_152 [153] vk_898 49 vc_898 2211 4 = true := by decide +kernel
theorem vx_898_373 : vm_chk bt_152 [153] vk_898 49 vc_898 2215 5 = true := by decide +kernel
theorem vx_898_374 : vm_chk bt_152 [153] vk_898 49 vc_898 2220 7 = true := by decide +kernel
theorem vx_898_375 : vm_chk bt_152 [153] vk_898 49 vc_898 2227 5 = true := by decide +kernel
theorem vx_898_376 : vm_chk bt_152 [153] vk_898 49 vc_898 2232 7 = true := by decide +kernel
theorem vx_898_377 : vm_chk bt_152 [153] vk_898 49 vc_898 2239 4 = true := by decide +kernel
theorem vx_898_378 : vm_chk bt_152 [153] vk_898 49 vc_898 2243 5 = true := by decide +kernel
theorem vx_898_379 : vm_chk bt_152 [153] vk_898 49 vc_898 2248 7 = true := by decide +kernel
theorem vx_898_380 : vm_chk bt_152 [153] vk_898 49 vc_898 2255 5 = true := by decide +kernel
theorem vx_898_381 : vm_chk bt_152 [153] vk_898 49 vc_898 2260 7 = true := by decide +kernel
theorem vx_898_382 : vm_chk bt_152 [153] vk_898 49 vc_898 2267 4 = true := by decide +kernel
theorem vx_898_383 : vm_chk bt_152 [153] vk_898 49 vc_898 2271 5 = true := by decide +kernel
theorem vx_898_384 : vm_chk bt_152 [153] vk_898 49 vc_898 2276 7 = true := by decide +kernel
theorem vx_898_385 : vm_chk bt_152 [153] vk_898 49 vc_898 2283 5 = true := by decide +kernel
theorem vx_898_386 : vm_chk bt_152 [153] vk_898 49 vc_898 2288 7 = true := by decide +kernel
theorem vx_898_387 : vm_chk bt_152 [153] vk_898 49 vc_898 2295 4 = true := by decide +kernel
theorem vx_898_388 : vm_chk bt_152 [153] vk_898 49 vc_898 2299 5 = true := by decide +kernel
theorem vx_898_389 : vm_chk bt_152 [153] vk_898 49 vc_898 2304 7 = true := by decide +kernel
theorem vx_898_390 : vm_chk bt_152 [153] vk_898 49 vc_898 2311 5 = true := by decide +kernel
theorem vx_898_391 : vm_chk bt_152 [153] vk_898 49 vc_898 2316 7 = true := by decide +kernel
theorem vx_898_392 : vm_chk bt_152 [153] vk_898 49 vc_898 2323 4 = true := by decide +kernel
theorem vx_898_393 : vm_chk bt_152 [153] vk_898 49 vc_898 2327 5 = true := by decide +kernel
theorem vx_898_394 : vm_chk bt_152 [153] vk_898 49 vc_898 2332 7 = true := by decide +kernel
theorem vx_898_395 : vm_chk bt_152 [153] vk_898 49 vc_898 2339 5 = true := by decide +kernel
theorem vx_898_396 : vm_chk bt_152 [153] vk_898 49 vc_898 2344 7 = true := by decide +kernel
theorem vx_898_397 : vm_chk bt_152 [153] vk_898 49 vc_898 2351 4 = true := by decide +kernel
theorem vx_898_398 : vm_chk bt_152 [153] vk_898 49 vc_898 2355 5 = true := by decide +kernel
theorem vx_898_399 : vm_chk bt_152 [153] vk_898 49 vc_898 2360 7 = true := by decide +kernel
theorem vx_898_400 : vm_chk bt_152 [153] vk_898 49 vc_898 2367 5 = true := by decide +kernel
theorem vx_898_401 : vm_chk bt_152 [153] vk_898 49 vc_898 2372 7 = true := by decide +kernel
theorem vx_898_402 : vm_chk bt_152 [153] vk_898 49 vc_898 2379 4 = true := by decide +kernel
theorem vx_898_403 : vm_chk bt_152 [153] vk_898 49 vc_898 2383 5 = true := by decide +kernel
theorem vx_898_404 : vm_chk bt_152 [153] vk_898 49 vc_898 2388 6 = true := by decide +kernel
theorem vx_898_405 : vm_chk bt_152 [153] vk_898 49 vc_898 2394 5 = true := by decide +kernel
theorem vx_898_406 : vm_chk bt_152 [153] vk_898 49 vc_898 2399 5 = true := by decide +kernel
theorem vx_898_407 : vm_chk bt_152 [153] vk_898 49 vc_898 2404 5 = true := by decide +kernel
theorem vx_898_408 : vm_chk bt_152 [153] vk_898 49 vc_898 2409 5 = true := by decide +kernel
theorem vx_898_409 : vm_chk bt_152 [153] vk_898 49 vc_898 2414 5 = true := by decide +kernel
theorem vx_898_410 : vm_chk bt_152 [153] vk_898 49 vc_898 2419 5 = true := by decide +kernel
theorem vx_898_411 : vm_chk bt_152 [153] vk_898 49 vc_898 2424 5 = true := by decide +kernel
theorem vx_898_412 : vm_chk bt_152 [153] vk_898 49 vc_898 2429 5 = true := by decide +kernel
theorem vx_898_413 : vm_chk bt_152 [153] vk_898 49 vc_898 2434 5 = true := by decide +kernel
theorem vx_898_414 : vm_chk bt_152 [153] vk_898 49 vc_898 2439 5 = true := by decide +kernel
theorem vx_898_415 : vm_chk bt_152 [153] vk_898 49 vc_898 2444 5 = true := by decide +kernel
theorem vx_898_416 : vm_chk bt_152 [153] vk_898 49 vc_898 2449 5 = true := by decide +kernel
theorem vx_898_417 : vm_chk bt_152 [153] vk_898 49 vc_898 2454 5 = true := by decide +kernel
theorem vx_898_418 : vm_chk bt_152 [153] vk_898 49 vc_898 2459 5 = true := by decide +kernel
theorem vx_898_419 : vm_chk bt_152 [153] vk_898 49 vc_898 2464 5 = true := by decide +kernel
theorem vx_898_420 : vm_chk bt_152 [153] vk_898 49 vc_898 2469 5 = true := by decide +kernel
theorem vx_898_421 : vm_chk bt_152 [153] vk_898 49 vc_898 2474 5 = true := by decide +kernel
theorem vx_898_422 : vm_chk bt_152 [153] vk_898 49 vc_898 2479 5 = true := by decide +kernel
theorem vx_898_423 : vm_chk bt_152 [153] vk_898 49 vc_898 2484 5 = true := by decide +kernel
theorem vx_898_424 : vm_chk bt_152 [153] vk_898 49 vc_898 2489 5 = true := by decide +kernel
theorem vx_898_425 : vm_chk bt_152 [153] vk_898 49 vc_898 2494 5 = true := by decide +kernel
theorem vx_898_426 : vm_chk bt_152 [153] vk_898 49 vc_898 2499 5 = true := by decide +kernel
theorem vx_898_427 : vm_chk bt_152 [153] vk_898 49 vc_898 2504 5 = true := by decide +kernel
theorem vx_898_428 : vm_chk bt_152 [153] vk_898 49 vc_898 2509 5 = true := by decide +kernel
theorem vx_898_429 : vm_chk bt_152 [153] vk_898 49 vc_898 2514 5 = true := by decide +kernel
theorem vx_898_430 : vm_chk bt_152 [153] vk_898 49 vc_898 2519 5 = true := by decide +kernel
theorem vx_898_431 : vm_chk bt_152 [153] vk_898 49 vc_898 2524 5 = true := by decide +kernel
theorem vx_898_432 : vm_chk bt_152 [153] vk_898 49 vc_898 2529 5 = true := by decide +kernel
theorem vx_898_433 : vm_chk bt_152 [153] vk_898 49 vc_898 2534 5 = true := by decide +kernel
theorem vx_898_434 : vm_chk bt_152 [153] vk_898 49 vc_898 2539 5 = true := by decide +kernel
theorem vx_898_435 : vm_chk bt_152 [153] vk_898 49 vc_898 2544 5 = true := by decide +kernel
theorem vx_898_436 : vm_chk bt_152 [153] vk_898 49 vc_898 2549 5 = true := by decide +kernel
theorem vx_898_437 : vm_chk bt_152 [153] vk_898 49 vc_898 2554 5 = true := by decide +kernel
theorem vx_898_438 : vm_chk bt_152 [153] vk_898 49 vc_898 2559 5 = true := by decide +kernel
theorem vx_898_439 : vm_chk bt_152 [153] vk_898 49 vc_898 2564 5 = true := by decide +kernel
theorem vx_898_440 : vm_chk bt_152 [153] vk_898 49 vc_898 2569 5 = true := by decide +kernel
theorem vx_898_441 : vm_chk bt_152 [153] vk_898 49 vc_898 2574 5 = true := by decide +kernel
theorem vx_898_442 : vm_chk bt_152 [153] vk_898 49 vc_898 2579 5 = true := by decide +kernel
theorem vx_898_443 : vm_chk bt_152 [153] vk_898 49 vc_898 2584 5 = true := by decide +kernel
theorem vx_898_444 : vm_chk bt_152 [153] vk_898 49 vc_898 2589 5 = true := by decide +kernel
theorem vx_898_445 : vm_chk bt_152 [153] vk_898 49 vc_898 2594 5 = true := by decide +kernel
theorem vx_898_446 : vm_chk bt_152 [153] vk_898 49 vc_898 2599 5 = true := by decide +kernel
theorem vx_898_447 : vm_chk bt_152 [153] vk_898 49 vc_898 2604 5 = true := by decide +kernel
theorem vx_898_448 : vm_chk bt_152 [153] vk_898 49 vc_898 2609 5 = true := by decide +kernel
theorem vx_898_449 : vm_chk bt_152 [153] vk_898 49 vc_898 2614 5 = true := by decide +kernel
theorem vx_898_450 : vm_chk bt_152 [153] vk_898 49 vc_898 2619 5 = true := by decide +kernel
theorem vx_898_451 : vm_chk bt_152 [153] vk_898 49 vc_898 2624 5 = true := by decide +kernel
theorem vx_898_452 : vm_chk bt_152 [153] vk_898 49 vc_898 2629 5 = true := by decide +kernel
theorem vx_898_453 : vm_chk bt_152 [153] vk_898 49 vc_898 2634 5 = true := by decide +kernel
theorem vx_898_454 : vm_chk bt_152 [153] vk_898 49 vc_898 2639 5 = true := by decide +kernel
theorem vx_898_455 : vm_chk bt_152 [153] vk_898 49 vc_898 2644 5 = true := by decide +kernel
theorem vx_898_456 : vm_chk bt_152 [153] vk_898 49 vc_898 2649 5 = true := by decide +kernel
theorem vx_898_457 : vm_chk bt_152 [153] vk_898 49 vc_898 2654 5 = true := by decide +kernel
theorem vx_898_458 : vm_chk bt_152 [153] vk_898 49 vc_898 2659 5 = true := by decide +kernel
theorem vx_898_459 : vm_chk bt_152 [153] vk_898 49 vc_898 2664 5 = true := by decide +kernel
theorem vx_898_460 : vm_chk bt_152 [153] vk_898 49 vc_898 2669 5 = true := by decide +kernel
theorem vx_898_461 : vm_chk bt_152 [153] vk_898 49 vc_898 2674 5 = true := by decide +kernel
theorem vx_898_462 : vm_chk bt_152 [153] vk_898 49 vc_898 2679 5 = true := by decide +kernel
theorem vx_898_463 : vm_chk bt_152 [153] vk_898 49 vc_898 2684 5 = true := by decide +kernel
theorem vx_898_464 : vm_chk bt_152 [153] vk_898 49 vc_898 2689 5 = true := by decide +kernel
theorem vx_898_465 : vm_chk bt_152 [153] vk_898 49 vc_898 2694 5 = true := by decide +kernel
theorem vx_898_466 : vm_chk bt_152 [153] vk_898 49 vc_898 2699 5 = true := by decide +kernel
theorem vx_898_467 : vm_chk bt_152 [153] vk_898 49 vc_898 2704 5 = true := by decide +kernel
theorem vx_898_468 : vm_chk bt_152 [153] vk_898 49 vc_898 2709 5 = true := by decide +kernel
theorem vx_898_469 : vm_chk bt_152 [153] vk_898 49 vc_898 2714 4 = true := by decide +kernel
theorem vy_898 : vm_ents 152 49 vc_898 ve_898 = true := by decide +kernel
theorem vgr_898_0 (i : Nat) : i < 351 → ∃ lo k, lo ≤ i ∧ i < lo + k ∧ vm_chk bt_152 [153] vk_898 49 vc_898 lo k = true := vm_hc vx_898_39 rfl (vm_hc vx_898_38 rfl (vm_hc vx_898_37 rfl (vm_hc vx_898_36 rfl (vm_hc vx_898_35 rfl (vm_hc vx_898_34 rfl (vm_hc vx_898_33 rfl (vm_hc vx_898_32 rfl (vm_hc vx_898_31 rfl (vm_hc vx_898_30 rfl (vm_hc vx_898_29 rfl (vm_hc vx_898_28 rfl (vm_hc vx_898_27 rfl (vm_hc vx_898_26 rfl (vm_hc vx_898_25 rfl (vm_hc vx_898_24 rfl (vm_hc vx_898_23 rfl (vm_hc vx_898_22 rfl (vm_hc vx_898_21 rfl (vm_hc vx_898_20 rfl (vm_hc vx_898_19 rfl (vm_hc vx_898_18 rfl (vm_hc vx_898_17 rfl (vm_hc vx_898_16 rfl (vm_hc vx_898_15 rfl (vm_hc vx_898_14 rfl (vm_hc vx_898_13 rfl (vm_hc vx_898_12 rfl (vm_hc vx_898_11 rfl (vm_hc vx_898_10 rfl (vm_hc vx_898_9 rfl (vm_hc vx_898_8 rfl (vm_hc vx_898_7 rfl (vm_hc vx_898_6 rfl (vm_hc vx_898_5 rfl (vm_hc vx_898_4 rfl (vm_hc vx_898_3 rfl (vm_hc vx_898_2 rfl (vm_hc vx_898_1 rfl (vm_hc vx_898_0 rfl (fun h => absurd h (Nat.not_lt_zero _)))))))))))))))))))))))))))))))))))))))))
theorem vgr_898_1 (i : Nat) : i < 575 → ∃ lo k, lo ≤ i ∧ i < lo + k ∧ vm_chk bt_152 [153] vk_898 49 vc_898 lo k = true := vm_hc vx_898_79 rfl (vm_hc vx_898_78 rfl (vm_hc vx_898_77 rfl (vm_hc vx_898_76 rfl (vm_hc vx_898_75 rfl (vm_hc vx_898_74 rfl (vm_hc vx_898_73 rfl (vm_hc vx_898_72 rfl (vm_hc vx_898_71 rfl (vm_hc vx_898_70 rfl (vm_hc vx_898_69 rfl (vm_hc vx_898_68 rfl (vm_hc vx_898_67 rfl (vm_hc vx_898_66 rfl (vm_hc vx_898_65 rfl (vm_hc vx_898_64 rfl (vm_hc vx_898_63 rfl (vm_hc vx_898_62 rfl (vm_hc vx_898_61 rfl (vm_hc vx_898_60 rfl (vm_hc vx_898_59 rfl (vm_hc vx_898_58 rfl (vm_hc vx_898_57 rfl (vm_hc vx_898_56 rfl (vm_hc vx_898_55 rfl (vm_hc vx_898_54 rfl (vm_hc vx_898_53 rfl (vm_hc vx_898_52 rfl (vm_hc vx_898_51 rfl (vm_hc vx_898_50 rfl (vm_hc vx_898_49 rfl (vm_hc vx_898_48 rfl (vm_hc vx_898_47 rfl (vm_hc vx_898_46 rfl (vm_hc vx_898_45 rfl (vm_hc vx_898_44 rfl (vm_hc vx_898_43 rfl (vm_hc vx_898_42 rfl (vm_hc vx_898_41 rfl (vm_hc vx_898_40 rfl (vgr_898_0 i))))))))))))))))))))))))))))))))))))))))
theorem vgr_898_2 (i : Nat) : i < 799 → ∃ lo k, lo ≤ i ∧ i < lo + k ∧ vm_chk bt_152 [153] vk_898 49 vc_898 lo k = true := vm_hc vx_898_119 rfl (vm_hc vx_898_118 rfl (vm_hc vx_898_117 rfl (vm_hc vx_898_116 rfl (vm_hc vx_898_115 rfl (vm_hc vx_898_114 rfl (vm_hc vx_898_113 rfl (vm_hc vx_898_112 rfl (vm_hc vx_898_111 rfl (vm_hc vx_898_110 rfl (vm_hc vx_898_109 rfl (vm_hc vx_898_108 rfl (vm_hc vx_898_107 rfl (vm_hc vx_898_106 rfl (vm_hc vx_898_105 rfl (vm_hc vx_898_104 rfl (vm_hc vx_898_103 rfl (vm_hc vx_898_102 rfl (vm_hc vx_898_101 rfl (vm_hc vx_898_100 rfl (vm_hc vx_898_99 rfl (vm_hc vx_898_98 rfl (vm_hc vx_898_97 rfl (vm_hc vx_898_96 rfl (vm_hc vx_898_95 rfl (vm_hc vx_898_94 rfl (vm_hc vx_898_93 rfl (vm_hc vx_898_92 rfl (vm_hc vx_898_91 rfl (vm_hc vx_898_90 rfl (vm_hc vx_898_89 rfl (vm_hc vx_898_88 rfl (vm_hc vx_898_87 rfl (vm_hc vx_898_86 rfl (vm_hc vx_898_85 rfl (vm_hc vx_898_84 rfl (vm_hc vx_898_83 rfl (vm_hc vx_898_82 rfl (vm_hc vx_898_81 rfl (vm_hc vx_898_80 rfl (vgr_898_1 i))))))))))))))))))))))))))))))))))))))))
theorem vgr_898_3 (i : Nat) : i < 1023 → ∃ lo k, lo ≤ i ∧ i < lo + k ∧ vm_chk bt_152 [153] vk_898 49 vc_898 lo k = true := vm_hc vx_898_159 rfl (vm_hc vx_898_158 rfl (vm_hc vx_898_157 rfl (vm_hc vx_898_156 rfl (vm_hc vx_898_155 rfl (vm_hc vx_898_154 rfl (vm_hc vx_898_153 rfl (vm_hc vx_898_152 rfl (vm_hc vx_898_151 rfl (vm_hc vx_898_150 rfl (vm_hc vx_898_149 rfl (vm_hc vx_898_148 rfl (vm_hc vx_898_147 rfl (vm_hc vx_898_146 rfl (vm_hc vx_898_145 rfl (vm_hc vx_898_144 rfl (vm_hc vx_898_143 rfl (vm_hc vx_898_142 rfl (vm_hc vx_898_141 rfl (vm_hc vx_898_140 rfl (vm_hc vx_898_139 rfl (vm_hc vx_898_138 rfl (vm_hc vx_898_137 rfl (vm_hc vx_898_136 rfl (vm_hc vx_898_135 rfl (vm_hc vx_898_134 rfl (vm_hc vx_898_133 rfl (vm_hc vx_898_132 rfl (vm_hc vx_898_131 rfl (vm_hc vx_898_130 rfl (vm_hc vx_898_129 rfl (vm_hc vx_898_128 rfl (vm_hc vx_898_127 rfl (vm_hc vx_898_126 rfl (vm_hc vx_898_125 rfl (vm_hc vx_898_124 rfl (vm_hc vx_898_123 rfl (vm_hc vx_898_122 rfl (vm_hc vx_898_121 rfl (vm_hc vx_898_120 rfl (vgr_898_2 i))))))))))))))))))))))))))))))))))))))))
theorem vgr_898_4 (i : Nat) : i < 1247 → ∃ lo k, lo ≤ i ∧ i < lo + k ∧ vm_chk bt_152 [153] vk_898 49 vc_898 lo k = true := vm_hc vx_898_199 rfl (vm_hc vx_898_198 rfl (vm_hc vx_898_197 rfl (vm_hc vx_898_196 rfl (vm_hc vx_898_195 rfl (vm_hc vx_898_194 rfl (vm_hc vx_898_193 rfl (vm_hc vx_898_192 rfl (vm_hc vx_898_191 rfl (vm_hc vx_898_190 rfl (vm_hc vx_898_189 rfl (vm_hc vx_898_188 rfl (vm_hc vx_898_187 rfl (vm_hc vx_898_186 rfl (vm_hc vx_898_185 rfl (vm_hc vx_898_184 rfl (vm_hc vx_898_183 rfl (vm_hc vx_898_182 rfl (vm_hc vx_898_181 rfl (vm_hc vx_898_180 rfl (vm_hc vx_898_179 rfl (vm_hc vx_898_178 rfl (vm_hc vx_898_177 rfl (vm_hc vx_898_176 rfl (vm_hc vx_898_175 rfl (vm_hc vx_898_174 rfl (vm_hc vx_898_173 rfl (vm_hc vx_898_172 rfl (vm_hc vx_898_171 rfl (vm_hc vx_898_170 rfl (vm_hc vx_898_169 rfl (vm_hc vx_898_168 rfl (vm_hc vx_898_167 rfl (vm_hc vx_898_166 rfl (vm_hc vx_898_165 rfl (vm_hc vx_898_164 rfl (vm_hc vx_898_163 rfl (vm_hc vx_898_162 rfl (vm_hc vx_898_161 rfl (vm_hc vx_898_160 rfl (vgr_898_3 i))))))))))))))))))))))))))))))))))))))))
theorem vgr_898_5 (i : Nat) : i < 1471 → ∃ lo k, lo ≤ i ∧ i < lo + k ∧ vm_chk bt_152 [153] vk_898 49 vc_898 lo k = true := vm_hc vx_898_239 rfl (vm_hc vx_898_238 rfl (vm_hc vx_898_237 rfl (vm_hc vx_898_236 rfl (vm_hc vx_898_235 rfl (vm_hc vx_898_234 rfl (vm_hc vx_898_233 rfl (vm_hc vx_898_232 rfl (vm_hc vx_898_231 rfl (vm_hc vx_898_230 rfl (vm_hc vx_898_229 rfl (vm_hc vx_898_228 rfl (vm_hc vx_898_227 rfl (vm_hc vx_898_226 rfl (vm_hc vx_898_225 rfl (vm_hc vx_898_224 rfl (vm_hc vx_898_223 rfl (vm_hc vx_898_222 rfl (vm_hc vx_898_221 rfl (vm_hc vx_898_220 rfl (vm_hc vx_898_219 rfl (vm_hc vx_898_218 rfl (vm_hc vx_898_217 rfl (vm_hc vx_898_216 rfl (vm_hc vx_898_215 rfl (vm_hc vx_898_214 rfl (vm_hc vx_898_213 rfl (vm_hc vx_898_212 rfl (vm_hc vx_898_211 rfl (vm_hc vx_898_210 rfl (vm_hc vx_898_209 rfl (vm_hc vx_898_208 rfl (vm_hc vx_898_207 rfl (vm_hc vx_898_206 rfl (vm_hc vx_898_205 rfl (vm_hc vx_898_204 rfl (vm_hc vx_898_203 rfl (vm_hc vx_898_202 rfl (vm_hc vx_898_201 rfl (vm_hc vx_898_200 rfl (vgr_898_4 i))))))))))))))))))))))))))))))))))))))))
theorem vgr_898_6 (i : Nat) : i < 1695 → ∃ lo k, lo ≤ i ∧ i < lo + k ∧ vm_chk bt_152 [153] vk_898 49 vc_898 lo k = true := vm_hc vx_898_279 rfl (vm_hc vx_898_278 rfl (vm_hc vx_898_277 rfl (vm_hc vx_898_276 rfl (vm_hc vx_898_275 rfl (vm_hc vx_898_274 rfl (vm_hc vx_898_273 rfl (vm_hc vx_898_272 rfl (vm_hc vx_898_271 rfl (vm_hc vx_898_270 rfl (vm_hc vx_898_269 rfl (vm_hc vx_898_268 rfl (vm_hc vx_898_267 rfl (vm_hc vx_898_266 rfl (vm_hc vx_898_265 rfl (vm_hc vx_898_264 rfl (vm_hc vx_898_263 rfl (vm_hc vx_898_262 rfl (vm_hc vx_898_261 rfl (vm_hc vx_898_260 rfl (vm_hc vx_898_259 rfl (vm_hc vx_898_258 rfl (vm_hc vx_898_257 rfl (vm_hc vx_898_256 rfl (vm_hc vx_898_255 rfl (vm_hc vx_898_254 rfl (vm_hc vx_898_253 rfl (vm_hc vx_898_252 rfl (vm_hc vx_898_251 rfl (vm_hc vx_898_250 rfl (vm_hc vx_898_249 rfl (vm_hc vx_898_248 rfl (vm_hc vx_898_247 rfl (vm_hc vx_898_246 rfl (vm_hc vx_898_245 rfl (vm_hc vx_898_244 rfl (vm_hc vx_898_243 rfl (vm_hc vx_898_242 rfl (vm_hc vx_898_241 rfl (vm_hc vx_898_240 rfl (vgr_898_5 i))))))))))))))))))))))))))))))))))))))))
theorem vgr_898_7 (i : Nat) : i < 1919 → ∃ lo k, lo ≤ i ∧ i < lo + k ∧ vm_chk bt_152 [153] vk_898 49 vc_898 lo k = true := vm_hc vx_898_319 rfl (vm_hc vx_898_318 rfl (vm_hc vx_898_317 rfl (vm_hc vx_898_316 rfl (vm_hc vx_898_315 rfl (vm_hc vx_898_314 rfl (vm_hc vx_898_313 rfl (vm_hc vx_898_312 rfl (vm_hc vx_898_311 rfl (vm_hc vx_898_310 rfl (vm_hc vx_898_309 rfl (vm_hc vx_898_308 rfl (vm_hc vx_898_307 rfl (vm_hc vx_898_306 rfl (vm_hc vx_898_305 rfl (vm_hc vx_898_304 rfl (vm_hc vx_898_303 rfl (vm_hc vx_898_302 rfl (vm_hc vx_898_301 rfl (vm_hc vx_898_300 rfl (vm_hc vx_898_299 rfl (vm_hc vx_898_298 rfl (vm_hc vx_898_297 rfl (vm_hc vx_898_296 rfl (vm_hc vx_898_295 rfl (vm_hc vx_898_294 rfl (vm_hc vx_898_293 rfl (vm_hc vx_898_292 rfl (vm_hc vx_898_291 rfl (vm_hc vx_898_290 rfl (vm_hc vx_898_289 rfl (vm_hc vx_898_288 rfl (vm_hc vx_898_287 rfl (vm_hc vx_898_286 rfl (vm_hc vx_898_285 rfl (vm_hc vx_898_284 rfl (vm_hc vx_898_283 rfl (vm_hc vx_898_282 rfl (vm_hc vx_898_281 rfl (vm_hc vx_898_280 rfl (vgr_898_6 i))))))))))))))))))))))))))))))))))))))))
theorem vgr_898_8 (i : Nat) : i < 2143 → ∃ lo k, lo ≤ i ∧ i < lo + k ∧ vm_chk bt_152 [153] vk_898 49 vc_898 lo k = true := vm_hc vx_898_359 rfl (vm_hc vx_898_358 rfl (vm_hc vx_898_357 rfl (vm_hc vx_898_356 rfl (vm_hc vx_898_355 rfl (vm_hc vx_898_354 rfl (vm_hc vx_898_353 rfl (vm_hc vx_898_352 rfl (vm_hc vx_898_351 rfl (vm_hc vx_898_350 rfl (vm_hc vx_898_349 rfl (vm_hc vx_898_348 rfl (vm_hc vx_898_347 rfl (vm_hc vx_898_346 rfl (vm_hc vx_898_345 rfl (vm_hc vx_898_344 rfl (vm_hc vx_898_343 rfl (vm_hc vx_898_342 rfl (vm_hc vx_898_341 rfl (vm_hc vx_898_340 rfl (vm_hc vx_898_339 rfl (vm_hc vx_898_338 rfl (vm_hc vx_898_337 rfl (vm_hc vx_898_336 rfl (vm_hc vx_898_335 rfl (vm_hc vx_898_334 rfl (vm_hc vx_898_333 rfl (vm_hc vx_898_332 rfl (vm_hc vx_898_331 rfl (vm_hc vx_898_330 rfl (vm_hc vx_898_329 rfl (vm_hc vx_898_328 rfl (vm_hc vx_898_327 rfl (vm_hc vx_898_326 rfl (vm_hc vx_898_325 rfl (vm_hc vx_898_324 rfl (vm_hc vx_898_323 rfl (vm_hc vx_898_322 rfl (vm_hc vx_898_321 rfl (vm_hc vx_898_320 rfl (vgr_898_7 i))))))))))))))))))))))))))))))))))))))))
theorem vgr_898_9 (i : Nat) : i < 2367 → ∃ lo k, lo ≤ i ∧ i < lo + k ∧ vm_chk bt_152 [153] vk_898 49 vc_898 lo k = true := vm_hc vx_898_399 rfl (vm_hc vx_898_398 rfl (vm_hc vx_898_397 rfl (vm_hc vx_898_396 rfl (vm_hc vx_898_395 rfl (vm_hc vx_898_394 rfl (vm_hc vx_898_393 rfl (vm_hc vx_898_392 rfl (vm_hc vx_898_391 rfl (vm_hc vx_898_390 rfl (vm_hc vx_898_389 rfl (vm_hc vx_898_388 rfl (vm_hc vx_898_387 rfl (vm_hc vx_898_386 rfl (vm_hc vx_898_385 rfl (vm_hc vx_898_384 rfl (vm_hc vx_898_383 rfl (vm_hc vx_898_382 rfl (vm_hc vx_898_381 rfl (vm_hc vx_898_380 rfl (vm_hc vx_898_379 rfl (vm_hc vx_898_378 rfl (vm_hc vx_898_377 rfl (vm_hc vx_898_376 rfl (vm_hc vx_898_375 rfl (vm_hc vx_898_374 rfl (vm_hc vx_898_373 rfl (vm_hc vx_898_372 rfl (vm_hc vx_898_371 rfl (vm_hc vx_898_370 rfl (vm_hc vx_898_369 rfl (vm_hc vx_898_368 rfl (vm_hc vx_898_367 rfl (vm_hc vx_898_366 rfl (vm_hc vx_898_365 rfl (vm_hc vx_898_364 rfl (vm_hc vx_898_363 rfl (vm_hc vx_898_362 rfl (vm_hc vx_898_361 rfl (vm_hc vx_898_360 rfl (vgr_898_8 i))))))))))))))))))))))))))))))))))))))))
theorem vgr_898_10 (i : Nat) : i < 2569 → ∃ lo k, lo ≤ i ∧ i < lo + k ∧ vm_chk bt_152 [153] vk_898 49 vc_898 lo k = true := vm_hc vx_898_439 rfl (vm_hc vx_898_438 rfl (vm_hc vx_898_437 rfl (vm_hc vx_898_436 rfl (vm_hc vx_898_435 rfl (vm_hc vx_898_434 rfl (vm_hc vx_898_433 rfl (vm_hc vx_898_432 rfl (vm_hc vx_898_431 rfl (vm_hc vx_898_430 rfl (vm_hc vx_898_429 rfl (vm_hc vx_898_428 rfl (vm_hc vx_898_427 rfl (vm_hc vx_898_426 rfl (vm_hc vx_898_425 rfl (vm_hc vx_898_424 rfl (vm_hc vx_898_423 rfl (vm_hc vx_898_422 rfl (vm_hc vx_898_421 rfl (vm_hc vx_898_420 rfl (vm_hc vx_898_419 rfl (vm_hc vx_898_418 rfl (vm_hc vx_898_417 rfl (vm_hc vx_898_416 rfl (vm_hc vx_898_415 rfl (vm_hc vx_898_414 rfl (vm_hc vx_898_413 rfl (vm_hc vx_898_412 rfl (vm_hc vx_898_411 rfl (vm_hc vx_898_410 rfl (vm_hc vx_898_409 rfl (vm_hc vx_898_408 rfl (vm_hc vx_898_407 rfl (vm_hc vx_898_406 rfl (vm_hc vx_898_405 rfl (vm_hc vx_898_404 rfl (vm_hc vx_898_403 rfl (vm_hc vx_898_402 rfl (vm_hc vx_898_401 rfl (vm_hc vx_898_400 rfl (vgr_898_9 i))))))))))))))))))))))))))))))))))))))))
theorem vgr_898_11 (i : Nat) : i < 2718 → ∃ lo k, lo ≤ i ∧ i < lo + k ∧ vm_chk bt_152 [153] vk_898 49 vc_898 lo k = true := vm_hc vx_898_469 rfl (vm_hc vx_898_468 rfl (vm_hc vx_898_467 rfl (vm_hc vx_898_466 rfl (vm_hc vx_898_465 rfl (vm_hc vx_898_464 rfl (vm_hc vx_898_463 rfl (vm_hc vx_898_462 rfl (vm_hc vx_898_461 rfl (vm_hc vx_898_460 rfl (vm_hc vx_898_459 rfl (vm_hc vx_898_458 rfl (vm_hc vx_898_457 rfl (vm_hc vx_898_456 rfl (vm_hc vx_898_455 rfl (vm_hc vx_898_454 rfl (vm_hc vx_898_453 rfl (vm_hc vx_898_452 rfl (vm_hc vx_898_451 rfl (vm_hc vx_898_450 rfl (vm_hc vx_898_449 rfl (vm_hc vx_898_448 rfl (vm_hc vx_898_447 rfl (vm_hc vx_898_446 rfl (vm_hc vx_898_445 rfl (vm_hc vx_898_444 rfl (vm_hc vx_898_443 rfl (vm_hc vx_898_442 rfl (vm_hc vx_898_441 rfl (vm_hc vx_898_440 rfl (vgr_898_10 i))))))))))))))))))))))))))))))
theorem vw_898 : ∀ q ∈ vk_898, vm_wt 2 q := vm_wts (vm_kc (vm_up v_893 rfl) (vm_kc (vm_up v_896 rfl) (vm_kc (vm_up v_891 rfl) (vm_kc (vm_up v_892 rfl) (vm_kc (vm_up v_886 rfl) (vm_kc (vm_up v_887 rfl) (vm_kc (vm_up v_884 rfl) (vm_kc (vm_up v_885 rfl) (vm_kc (vm_up v_890 rfl) (vm_kc (vm_up v_882 rfl) (vm_kc (vm_up v_883 rfl) (vm_kc (vm_up v_888 rfl) (vm_kc (vm_up v_889 rfl) (vm_kc (vm_up v_894 rfl) (vm_kc (vm_up v_895 rfl) (vm_kc (vm_up v_897 rfl) (vm_kc (vm_up v_824 rfl) (vm_kc (vm_up v_826 rfl) vm_kn)))))))))))))))))) (by decide +kernel)
theorem v_898 : ∀ s, s < 161 → vm_at 3 (q_898 s) := fun s hs => vm_ok (inl := [153]) (es := ve_898) bq_152 (by decide) vw_898 vy_898 (fun i => vgr_898_11 i) (vs_898 s) (List.mem_map.mpr ⟨s, List.mem_range.mpr hs, rfl⟩)
noncomputable def qj_898 (s : Nat) : vm_Q := (152, (vs_898 s).1, (80, [(62, .inr (.inr (.inr (7, [.inr (.inr (some 71)), .inr (.inr (some 72)), .inl (.ofNat 2, .ofNat 5), .inl (.ofNat 2, .ofNat 5), .inl (.ofNat 0, .ofNat 5), .inr (.inr (some 73)), .inl (.ofNat 2, .ofNat 5), .inl (.ofNat 2, .ofNat 5), .inl (.ofNat 0, .ofNat 5), .inl am_top, .inl am_top, .inl am_top, .inr (.inr (some 74)), .inl (.ofNat 0, .ofNat 160), .inl (.ofNat (s + 0), .ofNat 160), .inl (.ofNat 0, .ofNat 160), .inl (.ofNat 0, .ofNat 3), .inl am_top, .inl (.ofNat 0, .ofNat 0), .inl am_top, .inr (.inr (some 75)), .inr (.inr (some 76)), .inr (.inr (some 77)), .inr (.inr (some 78)), .inr (.inr (some 79)), .inr (.inr (some 80)), .inr (.inr (some 81)), .inl (.negSucc 0, .ofNat 6), .inr (.inr (some 82)), .inr (.inr (some 83)), .inr (.inr (some 84)), .inr (.inr (some 85)), .inr (.inr (some 86)), .inl am_top, .inr (.inr (some 87))]))))]), vp_898 s)
theorem vj_898 : ∀ s, s < 161 → vm_at 3 (qj_898 s) := fun s hs => vm_chain (n := 160) (q := qj_898) (p := q_898) (X := fun s => [(fun _ _ => some (.inr (62, 14)), fun _ _ => some [.ofNat (s + 1)])]) v_898 (by decide +kernel) (by decide +kernel) (160 - s) s (by omega)
noncomputable def vp_899 : List vm_R := [(none, va_h168)]
noncomputable def ve_899 : List vm_E := [([.inr (.inr (some 70))], va_h168, 0, [0])]
noncomputable def q_899 : vm_Q := (152, [.inr (.inr (some 70))], va_h168, vp_899)
noncomputable def vk_899 : List vm_U := []
noncomputable def vf_899 : List ((Nat → am_I) → vm_A) := [fun v => (0, [(0, .inr (.inr (some 70)))], [], (80, [(62, va_c53)]))]
noncomputable def vd_899_0_0 : List (List Nat) := [[0]]
noncomputable def vd_899_0 : List (List (List Nat)) := [vd_899_0_0]
noncomputable def vd_899 : List (List (List (List Nat))) := [vd_899_0]
noncomputable def vt_899 : List (List am_I) := []
noncomputable def vc_899 : vm_C := (fun _ => vp_899, fun pc => [], [8, 82, 140], 1, vm_inst 8 1 vt_899 vf_899 vd_899)
theorem vx_899_0 : vm_chk bt_152 [153] vk_899 6 vc_899 0 1 = true := by decide +kernel
theorem vy_899 : vm_ents 152 6 vc_899 ve_899 = true := by decide +kernel
theorem vw_899 : ∀ q ∈ vk_899, vm_wt 1 q := vm_wts vm_kn (by decide +kernel)
theorem v_899 : vm_at 2 q_899 := vm_ok (inl := [153]) (es := ve_899) bq_152 (by decide) vw_899 vy_899 (fun i => vm_hc vx_899_0 rfl (fun h => absurd h (Nat.not_lt_zero _))) _ List.mem_cons_self
noncomputable def vp_900 : List vm_R := [(some (.inl (.negSucc 0, .ofNat 127)), va_h0)]
noncomputable def ve_900 : List vm_E := [([.inr (.inr (some 70)), .inl (.ofNat 0, .ofNat 160)], va_h0, 0, [0, 1])]
noncomputable def q_900 : vm_Q := (153, [.inr (.inr (some 70)), .inl (.ofNat 0, .ofNat 160)], va_h0, vp_900)
noncomputable def vk_900 : List vm_U := []
noncomputable def vf_900 : List ((Nat → am_I) → vm_A) := [fun v => (0, [(0, .inr (.inr (some 70))), (1, .inl (v 0))], [], (80, []))]
noncomputable def vd_900_0_0 : List (List Nat) := [[2684354560, 2701131776]]
noncomputable def vd_900_0 : List (List (List Nat)) := [vd_900_0_0]
noncomputable def vd_900 : List (List (List (List Nat))) := [vd_900_0]
noncomputable def vt_900 : List (List am_I) := [[(.ofNat 0, .ofNat 159)]]
noncomputable def vc_900 : vm_C := (fun _ => vp_900, fun pc => (match Nat.beq pc 0 with
  | true => [(fun _ _ => some (.inl 1), fun _ _ => some [.ofNat 0, .ofNat 160])]
  | false => []), [], 2, vm_inst 8 161 vt_900 vf_900 vd_900)
theorem vx_900_0 : vm_chk bt_153 [] vk_900 12 vc_900 0 2 = true := by decide +kernel
theorem vy_900 : vm_ents 153 12 vc_900 ve_900 = true := by decide +kernel
theorem vw_900 : ∀ q ∈ vk_900, vm_wt 1 q := vm_wts vm_kn (by decide +kernel)
theorem v_900 : vm_at 2 q_900 := vm_ok (inl := []) (es := ve_900) bq_153 (by decide) vw_900 vy_900 (fun i => vm_hc vx_900_0 rfl (fun h => absurd h (Nat.not_lt_zero _))) _ List.mem_cons_self
noncomputable def vp_901 : List vm_R := [(some (.inl (.negSucc 0, .ofNat 127)), va_h0)]
noncomputable def ve_901 : List vm_E := [([.inr (.inr (some 70)), .inl (.ofNat 1, .ofNat 161)], va_h0, 0, [0, 1])]
noncomputable def q_901 : vm_Q := (153, [.inr (.inr (some 70)), .inl (.ofNat 1, .ofNat 161)], va_h0, vp_901)
noncomputable def vk_901 : List vm_U := []
noncomputable def vf_901 : List ((Nat → am_I) → vm_A) := [fun v => (0, [(0, .inr (.inr (some 70))), (1, .inl (v 0))], [], (80, []))]
noncomputable def vd_901_0_0 : List (List Nat) := [[16777216, 33554432]]
noncomputable def vd_901_0 : List (List (List Nat)) := [vd_901_0_0]
noncomputable def vd_901 : List (List (List (List Nat))) := [vd_901_0]
noncomputable def vt_901 : List (List am_I) := [[(.ofNat 160, .ofNat 161), (.ofNat 1, .ofNat 159)]]
noncomputable def vc_901 : vm_C := (fun _ => vp_901, fun pc => (match Nat.beq pc 0 with
  | true => [(fun _ _ => some (.inl 1), fun _ _ => some [.ofNat 0, .ofNat 160])]
  | false => []), [], 2, vm_inst 8 1 vt_901 vf_901 vd_901)
theorem vx_901_0 : vm_chk bt_153 [] vk_901 12 vc_901 0 2 = true := by decide +kernel
theorem vy_901 : vm_ents 153 12 vc_901 ve_901 = true := by decide +kernel
theorem vw_901 : ∀ q ∈ vk_901, vm_wt 1 q := vm_wts vm_kn (by decide +kernel)
theorem v_901 : vm_at 2 q_901 := vm_ok (inl := []) (es := ve_901) bq_153 (by decide) vw_901 vy_901 (fun i => vm_hc vx_901_0 rfl (fun h => absurd h (Nat.not_lt_zero _))) _ List.mem_cons_self
noncomputable def vp_902 : List vm_R := [(some (.inl (.ofNat 0, .ofNat 1)), va_h0)]
noncomputable def ve_902 : List vm_E := [([.inr (.inr (some 70)), .inl (.ofNat 4, .ofNat 4), .inl (.ofNat 116, .ofNat 116), .inl (.ofNat 111, .ofNat 111)], va_h0, 0, [0])]
noncomputable def q_902 : vm_Q := (157, [.inr (.inr (some 70)), .inl (.ofNat 4, .ofNat 4), .inl (.ofNat 116, .ofNat 116), .inl (.ofNat 111, .ofNat 111)], va_h0, vp_902)
noncomputable def vk_902 : List vm_U := [(q_900, true, []), (q_901, true, [])]
noncomputable def vf_902 : List ((Nat → am_I) → vm_A) := [fun v => (0, [(0, .inr (.inr (some 70))), (1, .inl (.ofNat 4, .ofNat 4)), (2, .inl (.ofNat 116, .ofNat 116)), (3, .inl (.ofNat 111, .ofNat 111))], [], (80, []))]
noncomputable def vd_902_0_0 : List (List Nat) := [[0]]
noncomputable def vd_902_0 : List (List (List Nat)) := [vd_902_0_0]
noncomputable def vd_902 : List (List (List (List Nat))) := [vd_902_0]
noncomputable def vt_902 : List (List am_I) := []
noncomputable def vc_902 : vm_C := (fun _ => vp_902, fun pc => [], [], 1, vm_inst 8 1 vt_902 vf_902 vd_902)
theorem vx_902_0 : vm_chk bt_157 [] vk_902 26 vc_902 0 1 = true := by decide +kernel
theorem vy_902 : vm_ents 157 26 vc_902 ve_902 = true := by decide +kernel
theorem vw_902 : ∀ q ∈ vk_902, vm_wt 2 q := vm_wts (vm_kc (vm_up v_900 rfl) (vm_kc (vm_up v_901 rfl) vm_kn)) (by decide +kernel)
theorem v_902 : vm_at 3 q_902 := vm_ok (inl := []) (es := ve_902) bq_157 (by decide) vw_902 vy_902 (fun i => vm_hc vx_902_0 rfl (fun h => absurd h (Nat.not_lt_zero _))) _ List.mem_cons_self
noncomputable def vp_903 : List vm_R := [(some (.inl (.negSucc 0, .ofNat 127)), va_h0)]
noncomputable def ve_903 : List vm_E := [([.inr (.inr (some 70)), .inl (.ofNat 2, .ofNat 162)], va_h0, 0, [0, 1])]
noncomputable def q_903 : vm_Q := (153, [.inr (.inr (some 70)), .inl (.ofNat 2, .ofNat 162)], va_h0, vp_903)
noncomputable def vk_903 : List vm_U := []
noncomputable def vf_903 : List ((Nat → am_I) → vm_A) := [fun v => (0, [(0, .inr (.inr (some 70))), (1, .inl (v 0))], [], (80, []))]
noncomputable def vd_903_0_0 : List (List Nat) := [[16777216, 33554432]]
noncomputable def vd_903_0 : List (List (List Nat)) := [vd_903_0_0]
noncomputable def vd_903 : List (List (List (List Nat))) := [vd_903_0]
noncomputable def vt_903 : List (List am_I) := [[(.ofNat 160, .ofNat 162), (.ofNat 2, .ofNat 159)]]
noncomputable def vc_903 : vm_C := (fun _ => vp_903, fun pc => (match Nat.beq pc 0 with
  | true => [(fun _ _ => some (.inl 1), fun _ _ => some [.ofNat 0, .ofNat 160])]
  | false => []), [], 2, vm_inst 8 1 vt_903 vf_903 vd_903)
theorem vx_903_0 : vm_chk bt_153 [] vk_903 12 vc_903 0 2 = true := by decide +kernel
theorem vy_903 : vm_ents 153 12 vc_903 ve_903 = true := by decide +kernel
theorem vw_903 : ∀ q ∈ vk_903, vm_wt 1 q := vm_wts vm_kn (by decide +kernel)
theorem v_903 : vm_at 2 q_903 := vm_ok (inl := []) (es := ve_903) bq_153 (by decide) vw_903 vy_903 (fun i => vm_hc vx_903_0 rfl (fun h => absurd h (Nat.not_lt_zero _))) _ List.mem_cons_self
noncomputable def vp_904 : List vm_R := [(some (.inl (.negSucc 0, .ofNat 127)), va_h0)]
noncomputable def ve_904 : List vm_E := [([.inr (.inr (some 70)), .inl (.ofNat 3, .ofNat 163)], va_h0, 0, [0, 1])]
noncomputable def q_904 : vm_Q := (153, [.inr (.inr (some 70)), .inl (.ofNat 3, .ofNat 163)], va_h0, vp_904)
noncomputable def vk_904 : List vm_U := []
noncomputable def vf_904 : List ((Nat → am_I) → vm_A) := [fun v => (0, [(0, .inr (.inr (some 70))), (1, .inl (v 0))], [], (80, []))]
noncomputable def vd_904_0_0 : List (List Nat) := [[16777216, 33554432]]
noncomputable def vd_904_0 : List (List (List Nat)) := [vd_904_0_0]
noncomputable def vd_904 : List (List (List (List Nat))) := [vd_904_0]
noncomputable def vt_904 : List (List am_I) := [[(.ofNat 160, .ofNat 163), (.ofNat 3, .ofNat 159)]]
noncomputable def vc_904 : vm_C := (fun _ => vp_904, fun pc => (match Nat.beq pc 0 with
  | true => [(fun _ _ => some (.inl 1), fun _ _ => some [.ofNat 0, .ofNat 160])]
  | false => []), [], 2, vm_inst 8 1 vt_904 vf_904 vd_904)
theorem vx_904_0 : vm_chk bt_153 [] vk_904 12 vc_904 0 2 = true := by decide +kernel
theorem vy_904 : vm_ents 153 12 vc_904 ve_904 = true := by decide +kernel
theorem vw_904 : ∀ q ∈ vk_904, vm_wt 1 q := vm_wts vm_kn (by decide +kernel)
theorem v_904 : vm_at 2 q_904 := vm_ok (inl := []) (es := ve_904) bq_153 (by decide) vw_904 vy_904 (fun i => vm_hc vx_904_0 rfl (fun h => absurd h (Nat.not_lt_zero _))) _ List.mem_cons_self
noncomputable def vp_905 : List vm_R := [(some (.inl (.ofNat 0, .ofNat 1)), va_h0)]
noncomputable def ve_905 : List vm_E := [([.inr (.inr (some 70)), .inl (.ofNat 119, .ofNat 119), .inl (.ofNat 110, .ofNat 110), .inl (.ofNat 0, .ofNat 0)], va_h0, 0, [0])]
noncomputable def q_905 : vm_Q := (158, [.inr (.inr (some 70)), .inl (.ofNat 119, .ofNat 119), .inl (.ofNat 110, .ofNat 110), .inl (.ofNat 0, .ofNat 0)], va_h0, vp_905)
noncomputable def vk_905 : List vm_U := [(q_903, true, []), (q_904, true, [])]
noncomputable def vf_905 : List ((Nat → am_I) → vm_A) := [fun v => (0, [(0, .inr (.inr (some 70))), (1, .inl (.ofNat 119, .ofNat 119)), (2, .inl (.ofNat 110, .ofNat 110)), (3, .inl (.ofNat 0, .ofNat 0))], [], (80, []))]
noncomputable def vd_905_0_0 : List (List Nat) := [[0]]
noncomputable def vd_905_0 : List (List (List Nat)) := [vd_905_0_0]
noncomputable def vd_905 : List (List (List (List Nat))) := [vd_905_0]
noncomputable def vt_905 : List (List am_I) := []
noncomputable def vc_905 : vm_C := (fun _ => vp_905, fun pc => [], [], 1, vm_inst 8 1 vt_905 vf_905 vd_905)
theorem vx_905_0 : vm_chk bt_158 [] vk_905 23 vc_905 0 1 = true := by decide +kernel
theorem vy_905 : vm_ents 158 23 vc_905 ve_905 = true := by decide +kernel
theorem vw_905 : ∀ q ∈ vk_905, vm_wt 2 q := vm_wts (vm_kc (vm_up v_903 rfl) (vm_kc (vm_up v_904 rfl) vm_kn)) (by decide +kernel)
theorem v_905 : vm_at 3 q_905 := vm_ok (inl := []) (es := ve_905) bq_158 (by decide) vw_905 vy_905 (fun i => vm_hc vx_905_0 rfl (fun h => absurd h (Nat.not_lt_zero _))) _ List.mem_cons_self
noncomputable def vp_906 : List vm_R := [(some (.inl (.ofNat 0, .ofNat 1)), va_h0)]
noncomputable def ve_906 : List vm_E := [([.inr (.inr (some 70)), .inl (.ofNat 4, .ofNat 4), .inl (.ofNat 112, .ofNat 112), .inl (.ofNat 117, .ofNat 117)], va_h0, 0, [0])]
noncomputable def q_906 : vm_Q := (157, [.inr (.inr (some 70)), .inl (.ofNat 4, .ofNat 4), .inl (.ofNat 112, .ofNat 112), .inl (.ofNat 117, .ofNat 117)], va_h0, vp_906)
noncomputable def vk_906 : List vm_U := [(q_900, true, []), (q_901, true, [])]
noncomputable def vf_906 : List ((Nat → am_I) → vm_A) := [fun v => (0, [(0, .inr (.inr (some 70))), (1, .inl (.ofNat 4, .ofNat 4)), (2, .inl (.ofNat 112, .ofNat 112)), (3, .inl (.ofNat 117, .ofNat 117))], [], (80, []))]
noncomputable def vd_906_0_0 : List (List Nat) := [[0]]
noncomputable def vd_906_0 : List (List (List Nat)) := [vd_906_0_0]
noncomputable def vd_906 : List (List (List (List Nat))) := [vd_906_0]
noncomputable def vt_906 : List (List am_I) := []
noncomputable def vc_906 : vm_C := (fun _ => vp_906, fun pc => [], [], 1, vm_inst 8 1 vt_906 vf_906 vd_906)
theorem vx_906_0 : vm_chk bt_157 [] vk_906 26 vc_906 0 1 = true := by decide +kernel
theorem vy_906 : vm_ents 157 26 vc_906 ve_906 = true := by decide +kernel
theorem vw_906 : ∀ q ∈ vk_906, vm_wt 2 q := vm_wts (vm_kc (vm_up v_900 rfl) (vm_kc (vm_up v_901 rfl) vm_kn)) (by decide +kernel)
theorem v_906 : vm_at 3 q_906 := vm_ok (inl := []) (es := ve_906) bq_157 (by decide) vw_906 vy_906 (fun i => vm_hc vx_906_0 rfl (fun h => absurd h (Nat.not_lt_zero _))) _ List.mem_cons_self
noncomputable def vp_907 : List vm_R := [(some (.inl (.ofNat 0, .ofNat 1)), va_h0)]
noncomputable def ve_907 : List vm_E := [([.inr (.inr (some 70)), .inl (.ofNat 108, .ofNat 108), .inl (.ofNat 108, .ofNat 108), .inl (.ofNat 0, .ofNat 0)], va_h0, 0, [0])]
noncomputable def q_907 : vm_Q := (158, [.inr (.inr (some 70)), .inl (.ofNat 108, .ofNat 108), .inl (.ofNat 108, .ofNat 108), .inl (.ofNat 0, .ofNat 0)], va_h0, vp_907)
noncomputable def vk_907 : List vm_U := [(q_903, true, []), (q_904, true, [])]
noncomputable def vf_907 : List ((Nat → am_I) → vm_A) := [fun v => (0, [(0, .inr (.inr (some 70))), (1, .inl (.ofNat 108, .ofNat 108)), (2, .inl (.ofNat 108, .ofNat 108)), (3, .inl (.ofNat 0, .ofNat 0))], [], (80, []))]
noncomputable def vd_907_0_0 : List (List Nat) := [[0]]
noncomputable def vd_907_0 : List (List (List Nat)) := [vd_907_0_0]
noncomputable def vd_907 : List (List (List (List Nat))) := [vd_907_0]
noncomputable def vt_907 : List (List am_I) := []
noncomputable def vc_907 : vm_C := (fun _ => vp_907, fun pc => [], [], 1, vm_inst 8 1 vt_907 vf_907 vd_907)
theorem vx_907_0 : vm_chk bt_158 [] vk_907 23 vc_907 0 1 = true := by decide +kernel
theorem vy_907 : vm_ents 158 23 vc_907 ve_907 = true := by decide +kernel
theorem vw_907 : ∀ q ∈ vk_907, vm_wt 2 q := vm_wts (vm_kc (vm_up v_903 rfl) (vm_kc (vm_up v_904 rfl) vm_kn)) (by decide +kernel)
theorem v_907 : vm_at 3 q_907 := vm_ok (inl := []) (es := ve_907) bq_158 (by decide) vw_907 vy_907 (fun i => vm_hc vx_907_0 rfl (fun h => absurd h (Nat.not_lt_zero _))) _ List.mem_cons_self
noncomputable def vp_908 : List vm_R := [(some (.inl (.ofNat 0, .ofNat 1)), va_h0)]
noncomputable def ve_908 : List vm_E := [([.inr (.inr (some 70)), .inl (.ofNat 5, .ofNat 5), .inl (.ofNat 112, .ofNat 112), .inl (.ofNat 114, .ofNat 114)], va_h0, 0, [0])]
noncomputable def q_908 : vm_Q := (157, [.inr (.inr (some 70)), .inl (.ofNat 5, .ofNat 5), .inl (.ofNat 112, .ofNat 112), .inl (.ofNat 114, .ofNat 114)], va_h0, vp_908)
noncomputable def vk_908 : List vm_U := [(q_900, true, []), (q_901, true, [])]
noncomputable def vf_908 : List ((Nat → am_I) → vm_A) := [fun v => (0, [(0, .inr (.inr (some 70))), (1, .inl (.ofNat 5, .ofNat 5)), (2, .inl (.ofNat 112, .ofNat 112)), (3, .inl (.ofNat 114, .ofNat 114))], [], (80, []))]
noncomputable def vd_908_0_0 : List (List Nat) := [[0]]
noncomputable def vd_908_0 : List (List (List Nat)) := [vd_908_0_0]
noncomputable def vd_908 : List (List (List (List Nat))) := [vd_908_0]
noncomputable def vt_908 : List (List am_I) := []
noncomputable def vc_908 : vm_C := (fun _ => vp_908, fun pc => [], [], 1, vm_inst 8 1 vt_908 vf_908 vd_908)
theorem vx_908_0 : vm_chk bt_157 [] vk_908 26 vc_908 0 1 = true := by decide +kernel
theorem vy_908 : vm_ents 157 26 vc_908 ve_908 = true := by decide +kernel
theorem vw_908 : ∀ q ∈ vk_908, vm_wt 2 q := vm_wts (vm_kc (vm_up v_900 rfl) (vm_kc (vm_up v_901 rfl) vm_kn)) (by decide +kernel)
theorem v_908 : vm_at 3 q_908 := vm_ok (inl := []) (es := ve_908) bq_157 (by decide) vw_908 vy_908 (fun i => vm_hc vx_908_0 rfl (fun h => absurd h (Nat.not_lt_zero _))) _ List.mem_cons_self
noncomputable def vp_909 : List vm_R := [(some (.inl (.negSucc 0, .ofNat 127)), va_h0)]
noncomputable def ve_909 : List vm_E := [([.inr (.inr (some 70)), .inl (.ofNat 4, .ofNat 164)], va_h0, 0, [0, 1])]
noncomputable def q_909 : vm_Q := (153, [.inr (.inr (some 70)), .inl (.ofNat 4, .ofNat 164)], va_h0, vp_909)
noncomputable def vk_909 : List vm_U := []
noncomputable def vf_909 : List ((Nat → am_I) → vm_A) := [fun v => (0, [(0, .inr (.inr (some 70))), (1, .inl (v 0))], [], (80, []))]
noncomputable def vd_909_0_0 : List (List Nat) := [[16777216, 33554432]]
noncomputable def vd_909_0 : List (List (List Nat)) := [vd_909_0_0]
noncomputable def vd_909 : List (List (List (List Nat))) := [vd_909_0]
noncomputable def vt_909 : List (List am_I) := [[(.ofNat 160, .ofNat 164), (.ofNat 4, .ofNat 159)]]
noncomputable def vc_909 : vm_C := (fun _ => vp_909, fun pc => (match Nat.beq pc 0 with
  | true => [(fun _ _ => some (.inl 1), fun _ _ => some [.ofNat 0, .ofNat 160])]
  | false => []), [], 2, vm_inst 8 1 vt_909 vf_909 vd_909)
theorem vx_909_0 : vm_chk bt_153 [] vk_909 12 vc_909 0 2 = true := by decide +kernel
theorem vy_909 : vm_ents 153 12 vc_909 ve_909 = true := by decide +kernel
theorem vw_909 : ∀ q ∈ vk_909, vm_wt 1 q := vm_wts vm_kn (by decide +kernel)
theorem v_909 : vm_at 2 q_909 := vm_ok (inl := []) (es := ve_909) bq_153 (by decide) vw_909 vy_909 (fun i => vm_hc vx_909_0 rfl (fun h => absurd h (Nat.not_lt_zero _))) _ List.mem_cons_self
noncomputable def vp_910 : List vm_R := [(some (.inl (.ofNat 0, .ofNat 1)), va_h0)]
noncomputable def ve_910 : List vm_E := [([.inr (.inr (some 70)), .inl (.ofNat 101, .ofNat 101), .inl (.ofNat 115, .ofNat 115), .inl (.ofNat 115, .ofNat 115)], va_h0, 0, [0])]
noncomputable def q_910 : vm_Q := (158, [.inr (.inr (some 70)), .inl (.ofNat 101, .ofNat 101), .inl (.ofNat 115, .ofNat 115), .inl (.ofNat 115, .ofNat 115)], va_h0, vp_910)
noncomputable def vk_910 : List vm_U := [(q_903, true, []), (q_904, true, []), (q_909, true, [])]
noncomputable def vf_910 : List ((Nat → am_I) → vm_A) := [fun v => (0, [(0, .inr (.inr (some 70))), (1, .inl (.ofNat 101, .ofNat 101)), (2, .inl (.ofNat 115, .ofNat 115)), (3, .inl (.ofNat 115, .ofNat 115))], [], (80, []))]
noncomputable def vd_910_0_0 : List (List Nat) := [[0]]
noncomputable def vd_910_0 : List (List (List Nat)) := [vd_910_0_0]
noncomputable def vd_910 : List (List (List (List Nat))) := [vd_910_0]
noncomputable def vt_910 : List (List am_I) := []
noncomputable def vc_910 : vm_C := (fun _ => vp_910, fun pc => [], [], 1, vm_inst 8 1 vt_910 vf_910 vd_910)
theorem vx_910_0 : vm_chk bt_158 [] vk_910 31 vc_910 0 1 = true := by decide +kernel
theorem vy_910 : vm_ents 158 31 vc_910 ve_910 = true := by decide +kernel
theorem vw_910 : ∀ q ∈ vk_910, vm_wt 2 q := vm_wts (vm_kc (vm_up v_903 rfl) (vm_kc (vm_up v_904 rfl) (vm_kc (vm_up v_909 rfl) vm_kn))) (by decide +kernel)
theorem v_910 : vm_at 3 q_910 := vm_ok (inl := []) (es := ve_910) bq_158 (by decide) vw_910 vy_910 (fun i => vm_hc vx_910_0 rfl (fun h => absurd h (Nat.not_lt_zero _))) _ List.mem_cons_self
noncomputable def vp_911 : List vm_R := [(some (.inl (.ofNat 0, .ofNat 1)), va_h0)]
noncomputable def ve_911 : List vm_E := [([.inr (.inr (some 70)), .inl (.ofNat 4, .ofNat 4), .inl (.ofNat 119, .ofNat 119), .inl (.ofNat 97, .ofNat 97)], va_h0, 0, [0])]
noncomputable def q_911 : vm_Q := (157, [.inr (.inr (some 70)), .inl (.ofNat 4, .ofNat 4), .inl (.ofNat 119, .ofNat 119), .inl (.ofNat 97, .ofNat 97)], va_h0, vp_911)
noncomputable def vk_911 : List vm_U := [(q_900, true, []), (q_901, true, [])]
noncomputable def vf_911 : List ((Nat → am_I) → vm_A) := [fun v => (0, [(0, .inr (.inr (some 70))), (1, .inl (.ofNat 4, .ofNat 4)), (2, .inl (.ofNat 119, .ofNat 119)), (3, .inl (.ofNat 97, .ofNat 97))], [], (80, []))]
noncomputable def vd_911_0_0 : List (List Nat) := [[0]]
noncomputable def vd_911_0 : List (List (List Nat)) := [vd_911_0_0]
noncomputable def vd_911 : List (List (List (List Nat))) := [vd_911_0]
noncomputable def vt_911 : List (List am_I) := []
noncomputable def vc_911 : vm_C := (fun _ => vp_911, fun pc => [], [], 1, vm_inst 8 1 vt_911 vf_911 vd_911)
theorem vx_911_0 : vm_chk bt_157 [] vk_911 26 vc_911 0 1 = true := by decide +kernel
theorem vy_911 : vm_ents 157 26 vc_911 ve_911 = true := by decide +kernel
theorem vw_911 : ∀ q ∈ vk_911, vm_wt 2 q := vm_wts (vm_kc (vm_up v_900 rfl) (vm_kc (vm_up v_901 rfl) vm_kn)) (by decide +kernel)
theorem v_911 : vm_at 3 q_911 := vm_ok (inl := []) (es := ve_911) bq_157 (by decide) vw_911 vy_911 (fun i => vm_hc vx_911_0 rfl (fun h => absurd h (Nat.not_lt_zero _))) _ List.mem_cons_self
noncomputable def vp_912 : List vm_R := [(some (.inl (.ofNat 0, .ofNat 1)), va_h0)]
noncomputable def ve_912 : List vm_E := [([.inr (.inr (some 70)), .inl (.ofNat 2, .ofNat 2), .inl (.ofNat 97, .ofNat 97), .inl (.ofNat 116, .ofNat 116)], va_h0, 0, [0])]
noncomputable def q_912 : vm_Q := (157, [.inr (.inr (some 70)), .inl (.ofNat 2, .ofNat 2), .inl (.ofNat 97, .ofNat 97), .inl (.ofNat 116, .ofNat 116)], va_h0, vp_912)
noncomputable def vk_912 : List vm_U := [(q_900, true, []), (q_901, true, [])]
noncomputable def vf_912 : List ((Nat → am_I) → vm_A) := [fun v => (0, [(0, .inr (.inr (some 70))), (1, .inl (.ofNat 2, .ofNat 2)), (2, .inl (.ofNat 97, .ofNat 97)), (3, .inl (.ofNat 116, .ofNat 116))], [], (80, []))]
noncomputable def vd_912_0_0 : List (List Nat) := [[0]]
noncomputable def vd_912_0 : List (List (List Nat)) := [vd_912_0_0]
noncomputable def vd_912 : List (List (List (List Nat))) := [vd_912_0]
noncomputable def vt_912 : List (List am_I) := []
noncomputable def vc_912 : vm_C := (fun _ => vp_912, fun pc => [], [], 1, vm_inst 8 1 vt_912 vf_912 vd_912)
theorem vx_912_0 : vm_chk bt_157 [] vk_912 26 vc_912 0 1 = true := by decide +kernel
theorem vy_912 : vm_ents 157 26 vc_912 ve_912 = true := by decide +kernel
theorem vw_912 : ∀ q ∈ vk_912, vm_wt 2 q := vm_wts (vm_kc (vm_up v_900 rfl) (vm_kc (vm_up v_901 rfl) vm_kn)) (by decide +kernel)
theorem v_912 : vm_at 3 q_912 := vm_ok (inl := []) (es := ve_912) bq_157 (by decide) vw_912 vy_912 (fun i => vm_hc vx_912_0 rfl (fun h => absurd h (Nat.not_lt_zero _))) _ List.mem_cons_self
noncomputable def vp_913 : List vm_R := [(some (.inl (.ofNat 0, .ofNat 1)), va_h0)]
noncomputable def ve_913 : List vm_E := [([.inr (.inr (some 70)), .inl (.ofNat 5, .ofNat 5), .inl (.ofNat 115, .ofNat 115), .inl (.ofNat 116, .ofNat 116)], va_h0, 0, [0])]
noncomputable def q_913 : vm_Q := (157, [.inr (.inr (some 70)), .inl (.ofNat 5, .ofNat 5), .inl (.ofNat 115, .ofNat 115), .inl (.ofNat 116, .ofNat 116)], va_h0, vp_913)
noncomputable def vk_913 : List vm_U := [(q_900, true, []), (q_901, true, [])]
noncomputable def vf_913 : List ((Nat → am_I) → vm_A) := [fun v => (0, [(0, .inr (.inr (some 70))), (1, .inl (.ofNat 5, .ofNat 5)), (2, .inl (.ofNat 115, .ofNat 115)), (3, .inl (.ofNat 116, .ofNat 116))], [], (80, []))]
noncomputable def vd_913_0_0 : List (List Nat) := [[0]]
noncomputable def vd_913_0 : List (List (List Nat)) := [vd_913_0_0]
noncomputable def vd_913 : List (List (List (List Nat))) := [vd_913_0]
noncomputable def vt_913 : List (List am_I) := []
noncomputable def vc_913 : vm_C := (fun _ => vp_913, fun pc => [], [], 1, vm_inst 8 1 vt_913 vf_913 vd_913)
theorem vx_913_0 : vm_chk bt_157 [] vk_913 26 vc_913 0 1 = true := by decide +kernel
theorem vy_913 : vm_ents 157 26 vc_913 ve_913 = true := by decide +kernel
theorem vw_913 : ∀ q ∈ vk_913, vm_wt 2 q := vm_wts (vm_kc (vm_up v_900 rfl) (vm_kc (vm_up v_901 rfl) vm_kn)) (by decide +kernel)
theorem v_913 : vm_at 3 q_913 := vm_ok (inl := []) (es := ve_913) bq_157 (by decide) vw_913 vy_913 (fun i => vm_hc vx_913_0 rfl (fun h => absurd h (Nat.not_lt_zero _))) _ List.mem_cons_self
noncomputable def vp_914 : List vm_R := [(some (.inl (.ofNat 0, .ofNat 1)), va_h0)]
noncomputable def ve_914 : List vm_E := [([.inr (.inr (some 70)), .inl (.ofNat 105, .ofNat 105), .inl (.ofNat 108, .ofNat 108), .inl (.ofNat 108, .ofNat 108)], va_h0, 0, [0])]
noncomputable def q_914 : vm_Q := (158, [.inr (.inr (some 70)), .inl (.ofNat 105, .ofNat 105), .inl (.ofNat 108, .ofNat 108), .inl (.ofNat 108, .ofNat 108)], va_h0, vp_914)
noncomputable def vk_914 : List vm_U := [(q_903, true, []), (q_904, true, []), (q_909, true, [])]
noncomputable def vf_914 : List ((Nat → am_I) → vm_A) := [fun v => (0, [(0, .inr (.inr (some 70))), (1, .inl (.ofNat 105, .ofNat 105)), (2, .inl (.ofNat 108, .ofNat 108)), (3, .inl (.ofNat 108, .ofNat 108))], [], (80, []))]
noncomputable def vd_914_0_0 : List (List Nat) := [[0]]
noncomputable def vd_914_0 : List (List (List Nat)) := [vd_914_0_0]
noncomputable def vd_914 : List (List (List (List Nat))) := [vd_914_0]
noncomputable def vt_914 : List (List am_I) := []
noncomputable def vc_914 : vm_C := (fun _ => vp_914, fun pc => [], [], 1, vm_inst 8 1 vt_914 vf_914 vd_914)
theorem vx_914_0 : vm_chk bt_158 [] vk_914 31 vc_914 0 1 = true := by decide +kernel
theorem vy_914 : vm_ents 158 31 vc_914 ve_914 = true := by decide +kernel
theorem vw_914 : ∀ q ∈ vk_914, vm_wt 2 q := vm_wts (vm_kc (vm_up v_903 rfl) (vm_kc (vm_up v_904 rfl) (vm_kc (vm_up v_909 rfl) vm_kn))) (by decide +kernel)
theorem v_914 : vm_at 3 q_914 := vm_ok (inl := []) (es := ve_914) bq_158 (by decide) vw_914 vy_914 (fun i => vm_hc vx_914_0 rfl (fun h => absurd h (Nat.not_lt_zero _))) _ List.mem_cons_self
noncomputable def vp_915 : List vm_R := [(some (.inl (.ofNat 0, .ofNat 1)), va_h0)]
noncomputable def ve_915 : List vm_E := [([.inr (.inr (some 70)), .inl (.ofNat 4, .ofNat 4), .inl (.ofNat 103, .ofNat 103), .inl (.ofNat 111, .ofNat 111)], va_h0, 0, [0])]
noncomputable def q_915 : vm_Q := (157, [.inr (.inr (some 70)), .inl (.ofNat 4, .ofNat 4), .inl (.ofNat 103, .ofNat 103), .inl (.ofNat 111, .ofNat 111)], va_h0, vp_915)
noncomputable def vk_915 : List vm_U := [(q_900, true, []), (q_901, true, [])]
noncomputable def vf_915 : List ((Nat → am_I) → vm_A) := [fun v => (0, [(0, .inr (.inr (some 70))), (1, .inl (.ofNat 4, .ofNat 4)), (2, .inl (.ofNat 103, .ofNat 103)), (3, .inl (.ofNat 111, .ofNat 111))], [], (80, []))]
noncomputable def vd_915_0_0 : List (List Nat) := [[0]]
noncomputable def vd_915_0 : List (List (List Nat)) := [vd_915_0_0]
noncomputable def vd_915 : List (List (List (List Nat))) := [vd_915_0]
noncomputable def vt_915 : List (List am_I) := []
noncomputable def vc_915 : vm_C := (fun _ => vp_915, fun pc => [], [], 1, vm_inst 8 1 vt_915 vf_915 vd_915)
theorem vx_915_0 : vm_chk bt_157 [] vk_915 26 vc_915 0 1 = true := by decide +kernel
theorem vy_915 : vm_ents 157 26 vc_915 ve_915 = true := by decide +kernel
theorem vw_915 : ∀ q ∈ vk_915, vm_wt 2 q := vm_wts (vm_kc (vm_up v_900 rfl) (vm_kc (vm_up v_901 rfl) vm_kn)) (by decide +kernel)
theorem v_915 : vm_at 3 q_915 := vm_ok (inl := []) (es := ve_915) bq_157 (by decide) vw_915 vy_915 (fun i => vm_hc vx_915_0 rfl (fun h => absurd h (Nat.not_lt_zero _))) _ List.mem_cons_self
noncomputable def vp_916 : List vm_R := [(some (.inl (.ofNat 0, .ofNat 1)), va_h0)]
noncomputable def ve_916 : List vm_E := [([.inr (.inr (some 70)), .inl (.ofNat 97, .ofNat 97), .inl (.ofNat 108, .ofNat 108), .inl (.ofNat 0, .ofNat 0)], va_h0, 0, [0])]
noncomputable def q_916 : vm_Q := (158, [.inr (.inr (some 70)), .inl (.ofNat 97, .ofNat 97), .inl (.ofNat 108, .ofNat 108), .inl (.ofNat 0, .ofNat 0)], va_h0, vp_916)
noncomputable def vk_916 : List vm_U := [(q_903, true, []), (q_904, true, [])]
noncomputable def vf_916 : List ((Nat → am_I) → vm_A) := [fun v => (0, [(0, .inr (.inr (some 70))), (1, .inl (.ofNat 97, .ofNat 97)), (2, .inl (.ofNat 108, .ofNat 108)), (3, .inl (.ofNat 0, .ofNat 0))], [], (80, []))]
noncomputable def vd_916_0_0 : List (List Nat) := [[0]]
noncomputable def vd_916_0 : List (List (List Nat)) := [vd_916_0_0]
noncomputable def vd_916 : List (List (List (List Nat))) := [vd_916_0]
noncomputable def vt_916 : List (List am_I) := []
noncomputable def vc_916 : vm_C := (fun _ => vp_916, fun pc => [], [], 1, vm_inst 8 1 vt_916 vf_916 vd_916)
theorem vx_916_0 : vm_chk bt_158 [] vk_916 23 vc_916 0 1 = true := by decide +kernel
theorem vy_916 : vm_ents 158 23 vc_916 ve_916 = true := by decide +kernel
theorem vw_916 : ∀ q ∈ vk_916, vm_wt 2 q := vm_wts (vm_kc (vm_up v_903 rfl) (vm_kc (vm_up v_904 rfl) vm_kn)) (by decide +kernel)
theorem v_916 : vm_at 3 q_916 := vm_ok (inl := []) (es := ve_916) bq_158 (by decide) vw_916 vy_916 (fun i => vm_hc vx_916_0 rfl (fun h => absurd h (Nat.not_lt_zero _))) _ List.mem_cons_self
noncomputable def vp_917 : List vm_R := [(some (.inl (.ofNat 0, .ofNat 0)), va_h0), (some (.inl (.ofNat 1, .ofNat 1)), va_h0), (some (.inl (.ofNat 2, .ofNat 2)), va_h0), (some (.inl (.ofNat 3, .ofNat 3)), va_h0), (some (.inl (.ofNat 4, .ofNat 4)), va_h0), (some (.inl (.ofNat 5, .ofNat 5)), va_h0), (some (.inl (.ofNat 6, .ofNat 6)), va_h0), (some (.inl (.negSucc 3, .negSucc 3)), va_h0)]
noncomputable def ve_917 : List vm_E := [([.inr (.inr (some 70))], va_h0, 0, [0])]
noncomputable def q_917 : vm_Q := (156, [.inr (.inr (some 70))], va_h0, vp_917)
noncomputable def vk_917 : List vm_U := [(q_902, true, []), (q_906, true, []), (q_908, true, []), (q_911, true, []), (q_912, true, []), (q_913, true, []), (q_915, true, []), (q_905, true, []), (q_907, true, []), (q_910, true, []), (q_914, true, []), (q_916, true, [])]
noncomputable def vf_917 : List ((Nat → am_I) → vm_A) := [fun v => (0, [(0, .inr (.inr (some 70)))], [], (80, []))]
noncomputable def vd_917_0_0 : List (List Nat) := [[0]]
noncomputable def vd_917_0 : List (List (List Nat)) := [vd_917_0_0]
noncomputable def vd_917 : List (List (List (List Nat))) := [vd_917_0]
noncomputable def vt_917 : List (List am_I) := []
noncomputable def vc_917 : vm_C := (fun _ => vp_917, fun pc => [], [], 1, vm_inst 8 1 vt_917 vf_917 vd_917)
theorem vx_917_0 : vm_chk bt_156 [] vk_917 83 vc_917 0 1 = true := by decide +kernel
theorem vy_917 : vm_ents 156 83 vc_917 ve_917 = true := by decide +kernel
theorem vw_917 : ∀ q ∈ vk_917, vm_wt 3 q := vm_wts (vm_kc (vm_up v_902 rfl) (vm_kc (vm_up v_906 rfl) (vm_kc (vm_up v_908 rfl) (vm_kc (vm_up v_911 rfl) (vm_kc (vm_up v_912 rfl) (vm_kc (vm_up v_913 rfl) (vm_kc (vm_up v_915 rfl) (vm_kc (vm_up v_905 rfl) (vm_kc (vm_up v_907 rfl) (vm_kc (vm_up v_910 rfl) (vm_kc (vm_up v_914 rfl) (vm_kc (vm_up v_916 rfl) vm_kn)))))))))))) (by decide +kernel)
theorem v_917 : vm_at 4 q_917 := vm_ok (inl := []) (es := ve_917) bq_156 (by decide) vw_917 vy_917 (fun i => vm_hc vx_917_0 rfl (fun h => absurd h (Nat.not_lt_zero _))) _ List.mem_cons_self
noncomputable def vp_918 : List vm_R := [(some (.inl (.ofNat 0, .ofNat 0)), va_h168)]
noncomputable def ve_918 : List vm_E := [([.inr (.inr (some 70)), .inl (.ofNat 2, .ofNat 2), .inl (.ofNat 5, .ofNat 5)], va_h168, 0, [0])]
noncomputable def q_918 : vm_Q := (160, [.inr (.inr (some 70)), .inl (.ofNat 2, .ofNat 2), .inl (.ofNat 5, .ofNat 5)], va_h168, vp_918)
noncomputable def vk_918 : List vm_U := [(q_899, false, []), (q_877, false, [])]
noncomputable def vf_918 : List ((Nat → am_I) → vm_A) := [fun v => (0, [(0, .inr (.inr (some 70))), (1, .inl (.ofNat 2, .ofNat 2)), (2, .inl (.ofNat 5, .ofNat 5))], [], (80, [(62, va_c53)]))]
noncomputable def vd_918_0_0 : List (List Nat) := [[0]]
noncomputable def vd_918_0 : List (List (List Nat)) := [vd_918_0_0]
noncomputable def vd_918 : List (List (List (List Nat))) := [vd_918_0]
noncomputable def vt_918 : List (List am_I) := []
noncomputable def vc_918 : vm_C := (fun _ => vp_918, fun pc => [], [], 1, vm_inst 8 1 vt_918 vf_918 vd_918)
theorem vx_918_0 : vm_chk bt_160 [] vk_918 11 vc_918 0 1 = true := by decide +kernel
theorem vy_918 : vm_ents 160 11 vc_918 ve_918 = true := by decide +kernel
theorem vw_918 : ∀ q ∈ vk_918, vm_wt 2 q := vm_wts (vm_kc (vm_up v_899 rfl) (vm_kc (vm_up v_877 rfl) vm_kn)) (by decide +kernel)
theorem v_918 : vm_at 3 q_918 := vm_ok (inl := []) (es := ve_918) bq_160 (by decide) vw_918 vy_918 (fun i => vm_hc vx_918_0 rfl (fun h => absurd h (Nat.not_lt_zero _))) _ List.mem_cons_self
noncomputable def vp_919 : List vm_R := [(some (.inl (.ofNat 0, .ofNat 0)), va_h168)]
noncomputable def ve_919 : List vm_E := [([.inr (.inr (some 70)), .inl (.ofNat 0, .ofNat 0), .inl (.ofNat 9, .ofNat 9)], va_h168, 0, [0])]
noncomputable def q_919 : vm_Q := (160, [.inr (.inr (some 70)), .inl (.ofNat 0, .ofNat 0), .inl (.ofNat 9, .ofNat 9)], va_h168, vp_919)
noncomputable def vk_919 : List vm_U := [(q_899, false, []), (q_878, false, [])]
noncomputable def vf_919 : List ((Nat → am_I) → vm_A) := [fun v => (0, [(0, .inr (.inr (some 70))), (1, .inl (.ofNat 0, .ofNat 0)), (2, .inl (.ofNat 9, .ofNat 9))], [], (80, [(62, va_c53)]))]
noncomputable def vd_919_0_0 : List (List Nat) := [[0]]
noncomputable def vd_919_0 : List (List (List Nat)) := [vd_919_0_0]
noncomputable def vd_919 : List (List (List (List Nat))) := [vd_919_0]
noncomputable def vt_919 : List (List am_I) := []
noncomputable def vc_919 : vm_C := (fun _ => vp_919, fun pc => [], [], 1, vm_inst 8 1 vt_919 vf_919 vd_919)
theorem vx_919_0 : vm_chk bt_160 [] vk_919 11 vc_919 0 1 = true := by decide +kernel
theorem vy_919 : vm_ents 160 11 vc_919 ve_919 = true := by decide +kernel
theorem vw_919 : ∀ q ∈ vk_919, vm_wt 2 q := vm_wts (vm_kc (vm_up v_899 rfl) (vm_kc (vm_up v_878 rfl) vm_kn)) (by decide +kernel)
theorem v_919 : vm_at 3 q_919 := vm_ok (inl := []) (es := ve_919) bq_160 (by decide) vw_919 vy_919 (fun i => vm_hc vx_919_0 rfl (fun h => absurd h (Nat.not_lt_zero _))) _ List.mem_cons_self
noncomputable def vp_920 : List vm_R := [(some (.inl (.ofNat 0, .ofNat 0)), va_h168)]
noncomputable def ve_920 : List vm_E := [([.inr (.inr (some 70)), .inl (.ofNat 0, .ofNat 0), .inl (.ofNat 4, .ofNat 4)], va_h168, 0, [0])]
noncomputable def q_920 : vm_Q := (160, [.inr (.inr (some 70)), .inl (.ofNat 0, .ofNat 0), .inl (.ofNat 4, .ofNat 4)], va_h168, vp_920)
noncomputable def vk_920 : List vm_U := [(q_899, false, []), (q_879, false, [])]
noncomputable def vf_920 : List ((Nat → am_I) → vm_A) := [fun v => (0, [(0, .inr (.inr (some 70))), (1, .inl (.ofNat 0, .ofNat 0)), (2, .inl (.ofNat 4, .ofNat 4))], [], (80, [(62, va_c53)]))]
noncomputable def vd_920_0_0 : List (List Nat) := [[0]]
noncomputable def vd_920_0 : List (List (List Nat)) := [vd_920_0_0]
noncomputable def vd_920 : List (List (List (List Nat))) := [vd_920_0]
noncomputable def vt_920 : List (List am_I) := []
noncomputable def vc_920 : vm_C := (fun _ => vp_920, fun pc => [], [], 1, vm_inst 8 1 vt_920 vf_920 vd_920)
theorem vx_920_0 : vm_chk bt_160 [] vk_920 11 vc_920 0 1 = true := by decide +kernel
theorem vy_920 : vm_ents 160 11 vc_920 ve_920 = true := by decide +kernel
theorem vw_920 : ∀ q ∈ vk_920, vm_wt 2 q := vm_wts (vm_kc (vm_up v_899 rfl) (vm_kc (vm_up v_879 rfl) vm_kn)) (by decide +kernel)
theorem v_920 : vm_at 3 q_920 := vm_ok (inl := []) (es := ve_920) bq_160 (by decide) vw_920 vy_920 (fun i => vm_hc vx_920_0 rfl (fun h => absurd h (Nat.not_lt_zero _))) _ List.mem_cons_self
noncomputable def vp_921 : List vm_R := [(some (.inl (.ofNat 0, .ofNat 0)), va_h168)]
noncomputable def ve_921 : List vm_E := [([.inr (.inr (some 70)), .inl (.ofNat 0, .ofNat 0), .inl (.ofNat 24, .ofNat 24)], va_h168, 0, [0])]
noncomputable def q_921 : vm_Q := (160, [.inr (.inr (some 70)), .inl (.ofNat 0, .ofNat 0), .inl (.ofNat 24, .ofNat 24)], va_h168, vp_921)
noncomputable def vk_921 : List vm_U := [(q_899, false, []), (q_880, false, [])]
noncomputable def vf_921 : List ((Nat → am_I) → vm_A) := [fun v => (0, [(0, .inr (.inr (some 70))), (1, .inl (.ofNat 0, .ofNat 0)), (2, .inl (.ofNat 24, .ofNat 24))], [], (80, [(62, va_c53)]))]
noncomputable def vd_921_0_0 : List (List Nat) := [[0]]
noncomputable def vd_921_0 : List (List (List Nat)) := [vd_921_0_0]
noncomputable def vd_921 : List (List (List (List Nat))) := [vd_921_0]
noncomputable def vt_921 : List (List am_I) := []
noncomputable def vc_921 : vm_C := (fun _ => vp_921, fun pc => [], [], 1, vm_inst 8 1 vt_921 vf_921 vd_921)
theorem vx_921_0 : vm_chk bt_160 [] vk_921 11 vc_921 0 1 = true := by decide +kernel
theorem vy_921 : vm_ents 160 11 vc_921 ve_921 = true := by decide +kernel
theorem vw_921 : ∀ q ∈ vk_921, vm_wt 2 q := vm_wts (vm_kc (vm_up v_899 rfl) (vm_kc (vm_up v_880 rfl) vm_kn)) (by decide +kernel)
theorem v_921 : vm_at 3 q_921 := vm_ok (inl := []) (es := ve_921) bq_160 (by decide) vw_921 vy_921 (fun i => vm_hc vx_921_0 rfl (fun h => absurd h (Nat.not_lt_zero _))) _ List.mem_cons_self
noncomputable def vp_922 : List vm_R := [(some (.inl (.ofNat 0, .ofNat 0)), va_h168)]
noncomputable def ve_922 : List vm_E := [([.inr (.inr (some 70)), .inl (.ofNat 0, .ofNat 0), .inl (.ofNat 3, .ofNat 3)], va_h168, 0, [0])]
noncomputable def q_922 : vm_Q := (160, [.inr (.inr (some 70)), .inl (.ofNat 0, .ofNat 0), .inl (.ofNat 3, .ofNat 3)], va_h168, vp_922)
noncomputable def vk_922 : List vm_U := [(q_899, false, []), (q_881, false, [])]
noncomputable def vf_922 : List ((Nat → am_I) → vm_A) := [fun v => (0, [(0, .inr (.inr (some 70))), (1, .inl (.ofNat 0, .ofNat 0)), (2, .inl (.ofNat 3, .ofNat 3))], [], (80, [(62, va_c53)]))]
noncomputable def vd_922_0_0 : List (List Nat) := [[0]]
noncomputable def vd_922_0 : List (List (List Nat)) := [vd_922_0_0]
noncomputable def vd_922 : List (List (List (List Nat))) := [vd_922_0]
noncomputable def vt_922 : List (List am_I) := []
noncomputable def vc_922 : vm_C := (fun _ => vp_922, fun pc => [], [], 1, vm_inst 8 1 vt_922 vf_922 vd_922)
theorem vx_922_0 : vm_chk bt_160 [] vk_922 11 vc_922 0 1 = true := by decide +kernel
theorem vy_922 : vm_ents 160 11 vc_922 ve_922 = true := by decide +kernel
theorem vw_922 : ∀ q ∈ vk_922, vm_wt 2 q := vm_wts (vm_kc (vm_up v_899 rfl) (vm_kc (vm_up v_881 rfl) vm_kn)) (by decide +kernel)
theorem v_922 : vm_at 3 q_922 := vm_ok (inl := []) (es := ve_922) bq_160 (by decide) vw_922 vy_922 (fun i => vm_hc vx_922_0 rfl (fun h => absurd h (Nat.not_lt_zero _))) _ List.mem_cons_self
noncomputable def vp_923 : List vm_R := [(some (.inl (.ofNat 0, .ofNat 0)), va_h168)]
noncomputable def ve_923 : List vm_E := [([.inr (.inr (some 70))], va_h168, 0, [0])]
noncomputable def q_923 : vm_Q := (162, [.inr (.inr (some 70))], va_h168, vp_923)
noncomputable def vk_923 : List vm_U := [(q_899, false, []), (q_880, false, [])]
noncomputable def vf_923 : List ((Nat → am_I) → vm_A) := [fun v => (0, [(0, .inr (.inr (some 70)))], [], (80, [(62, va_c53)]))]
noncomputable def vd_923_0_0 : List (List Nat) := [[0]]
noncomputable def vd_923_0 : List (List (List Nat)) := [vd_923_0_0]
noncomputable def vd_923 : List (List (List (List Nat))) := [vd_923_0]
noncomputable def vt_923 : List (List am_I) := []
noncomputable def vc_923 : vm_C := (fun _ => vp_923, fun pc => [], [37], 1, vm_inst 8 1 vt_923 vf_923 vd_923)
theorem vx_923_0 : vm_chk bt_162 [] vk_923 17 vc_923 0 1 = true := by decide +kernel
theorem vy_923 : vm_ents 162 17 vc_923 ve_923 = true := by decide +kernel
theorem vw_923 : ∀ q ∈ vk_923, vm_wt 2 q := vm_wts (vm_kc (vm_up v_899 rfl) (vm_kc (vm_up v_880 rfl) vm_kn)) (by decide +kernel)
theorem v_923 : vm_at 3 q_923 := vm_ok (inl := []) (es := ve_923) bq_162 (by decide) vw_923 vy_923 (fun i => vm_hc vx_923_0 rfl (fun h => absurd h (Nat.not_lt_zero _))) _ List.mem_cons_self
noncomputable def va_c226 : am_C := .inr (.inr (.inr (7, [.inr (.inr (some 71)), .inr (.inr (some 72)), .inl (.ofNat 2, .ofNat 5), .inl (.ofNat 2, .ofNat 5), .inl (.ofNat 0, .ofNat 5), .inr (.inr (some 73)), .inl (.ofNat 0, .ofNat 5), .inl (.ofNat 0, .ofNat 5), .inl (.ofNat 0, .ofNat 4), .inl am_top, .inl am_top, .inl am_top, .inr (.inr (some 74)), .inl (.ofNat 0, .ofNat 160), .inl (.ofNat 0, .ofNat 160), .inl (.ofNat 0, .ofNat 160), .inl (.ofNat 0, .ofNat 3), .inl am_top, .inl (.ofNat 1, .ofNat 6), .inl am_top, .inr (.inr (some 75)), .inr (.inr (some 76)), .inr (.inr (some 77)), .inr (.inr (some 78)), .inr (.inr (some 79)), .inr (.inr (some 80)), .inr (.inr (some 81)), .inl (.negSucc 0, .ofNat 6), .inr (.inr (some 82)), .inr (.inr (some 83)), .inr (.inr (some 84)), .inr (.inr (some 85)), .inr (.inr (some 86)), .inl am_top, .inr (.inr (some 87))])))
noncomputable def va_h341 : am_H := (80, [(62, va_c226)])
noncomputable def vp_924 : List vm_R := [(none, va_h168)]
noncomputable def ve_924 : List vm_E := [([.inr (.inr (some 70)), .inl (.ofNat 0, .ofNat 1)], va_h341, 0, [0, 1, 2, 3, 4])]
noncomputable def q_924 : vm_Q := (165, [.inr (.inr (some 70)), .inl (.ofNat 0, .ofNat 1)], va_h341, vp_924)
noncomputable def vk_924 : List vm_U := [(q_922, false, [(7, 62, 8)]), (q_923, false, [(7, 62, 8)])]
noncomputable def vf_924 : List ((Nat → am_I) → vm_A) := [fun v => (0, [(0, .inr (.inr (some 70))), (1, .inl (.ofNat 0, .ofNat 1))], [], (80, [(62, .inr (.inr (.inr (7, [.inr (.inr (some 71)), .inr (.inr (some 72)), .inl (.ofNat 2, .ofNat 5), .inl (.ofNat 2, .ofNat 5), .inl (.ofNat 0, .ofNat 5), .inr (.inr (some 73)), .inl (.ofNat 0, .ofNat 5), .inl (.ofNat 0, .ofNat 5), .inl (v 0), .inl am_top, .inl am_top, .inl am_top, .inr (.inr (some 74)), .inl (.ofNat 0, .ofNat 160), .inl (.ofNat 0, .ofNat 160), .inl (.ofNat 0, .ofNat 160), .inl (.ofNat 0, .ofNat 3), .inl am_top, .inl (.ofNat 1, .ofNat 6), .inl am_top, .inr (.inr (some 75)), .inr (.inr (some 76)), .inr (.inr (some 77)), .inr (.inr (some 78)), .inr (.inr (some 79)), .inr (.inr (some 80)), .inr (.inr (some 81)), .inl (.negSucc 0, .ofNat 6), .inr (.inr (some 82)), .inr (.inr (some 83)), .inr (.inr (some 84)), .inr (.inr (some 85)), .inr (.inr (some 86)), .inl am_top, .inr (.inr (some 87))]))))]))]
noncomputable def vd_924_0_0 : List (List Nat) := [[67108864, 50331648, 33554432, 16777216, 0]]
noncomputable def vd_924_0 : List (List (List Nat)) := [vd_924_0_0]
noncomputable def vd_924 : List (List (List (List Nat))) := [vd_924_0]
noncomputable def vt_924 : List (List am_I) := []
noncomputable def vc_924 : vm_C := (fun _ => vp_924, fun pc => (match Nat.beq pc 0 with
  | true => [(fun _ _ => some (.inr (62, 8)), fun _ _ => some [.ofNat 1, .ofNat 2, .ofNat 3, .ofNat 4, .ofNat 5])]
  | false => []), [], 5, vm_inst 8 5 vt_924 vf_924 vd_924)
theorem vx_924_0 : vm_chk bt_165 [] vk_924 14 vc_924 0 5 = true := by decide +kernel
theorem vy_924 : vm_ents 165 14 vc_924 ve_924 = true := by decide +kernel
theorem vw_924 : ∀ q ∈ vk_924, vm_wt 3 q := vm_wts (vm_kc (vm_up v_922 rfl) (vm_kc (vm_up v_923 rfl) vm_kn)) (by decide +kernel)
theorem v_924 : vm_at 4 q_924 := vm_ok (inl := []) (es := ve_924) bq_165 (by decide) vw_924 vy_924 (fun i => vm_hc vx_924_0 rfl (fun h => absurd h (Nat.not_lt_zero _))) _ List.mem_cons_self
noncomputable def vp_925 : List vm_R := [(none, va_h168)]
noncomputable def ve_925 : List vm_E := [([.inr (.inr (some 70))], va_h168, 0, [0])]
noncomputable def q_925 : vm_Q := (163, [.inr (.inr (some 70))], va_h168, vp_925)
noncomputable def vk_925 : List vm_U := [(q_899, false, []), (q_921, false, []), (q_879, false, [])]
noncomputable def vf_925 : List ((Nat → am_I) → vm_A) := [fun v => (0, [(0, .inr (.inr (some 70)))], [], (80, [(62, va_c53)])), fun v => (7, [(0, .inr (.inr (some 70))), (1, .inl (.ofNat 0, .ofNat 0))], [], (80, [(62, va_c53)])), fun v => (38, [(0, .inr (.inr (some 70))), (1, .inl (.ofNat 0, .ofNat 0))], [], (80, [(62, va_c53)])), fun v => (42, [(0, .inr (.inr (some 70))), (1, .inl (.ofNat 0, .ofNat 0))], [], (80, [(62, va_c53)])), fun v => (50, [(0, .inr (.inr (some 70))), (1, .inl (.ofNat 0, .ofNat 0)), (2, .inl (.ofNat 0, .ofNat 0))], [], (80, [(62, va_c53)]))]
noncomputable def vd_925_0_0 : List (List Nat) := [[65536, 65537, 65538, 65539, 4]]
noncomputable def vd_925_0 : List (List (List Nat)) := [vd_925_0_0]
noncomputable def vd_925 : List (List (List (List Nat))) := [vd_925_0]
noncomputable def vt_925 : List (List am_I) := []
noncomputable def vc_925 : vm_C := (fun _ => vp_925, fun pc => (match Nat.beq pc 7 with
  | true => [(fun _ _ => some (.inl 1), fun _ _ => some [.ofNat 0, .ofNat 1, .ofNat 2, .ofNat 3, .ofNat 4])]
  | false => []), [7, 38, 42, 50], 5, vm_inst 8 5 vt_925 vf_925 vd_925)
theorem vx_925_0 : vm_chk bt_163 [] vk_925 8 vc_925 0 5 = true := by decide +kernel
theorem vy_925 : vm_ents 163 8 vc_925 ve_925 = true := by decide +kernel
theorem vw_925 : ∀ q ∈ vk_925, vm_wt 3 q := vm_wts (vm_kc (vm_up v_899 rfl) (vm_kc (vm_up v_921 rfl) (vm_kc (vm_up v_879 rfl) vm_kn))) (by decide +kernel)
theorem v_925 : vm_at 4 q_925 := vm_ok (inl := []) (es := ve_925) bq_163 (by decide) vw_925 vy_925 (fun i => vm_hc vx_925_0 rfl (fun h => absurd h (Nat.not_lt_zero _))) _ List.mem_cons_self
noncomputable def vp_926 : List vm_R := [(none, va_h168)]
noncomputable def ve_926 : List vm_E := [([.inr (.inr (some 70)), .inl (.ofNat 0, .ofNat 0)], va_h168, 0, [0])]
noncomputable def q_926 : vm_Q := (159, [.inr (.inr (some 70)), .inl (.ofNat 0, .ofNat 0)], va_h168, vp_926)
noncomputable def vk_926 : List vm_U := [(q_918, false, [(7, 62, 6)])]
noncomputable def vf_926 : List ((Nat → am_I) → vm_A) := [fun v => (0, [(0, .inr (.inr (some 70))), (1, .inl (.ofNat 0, .ofNat 0))], [], (80, [(62, va_c53)]))]
noncomputable def vd_926_0_0 : List (List Nat) := [[0]]
noncomputable def vd_926_0 : List (List (List Nat)) := [vd_926_0_0]
noncomputable def vd_926 : List (List (List (List Nat))) := [vd_926_0]
noncomputable def vt_926 : List (List am_I) := []
noncomputable def vc_926 : vm_C := (fun _ => vp_926, fun pc => [], [69], 1, vm_inst 8 1 vt_926 vf_926 vd_926)
theorem vx_926_0 : vm_chk bt_159 [] vk_926 18 vc_926 0 1 = true := by decide +kernel
theorem vy_926 : vm_ents 159 18 vc_926 ve_926 = true := by decide +kernel
theorem vw_926 : ∀ q ∈ vk_926, vm_wt 3 q := vm_wts (vm_kc (vm_up v_918 rfl) vm_kn) (by decide +kernel)
theorem v_926 : vm_at 4 q_926 := vm_ok (inl := []) (es := ve_926) bq_159 (by decide) vw_926 vy_926 (fun i => vm_hc vx_926_0 rfl (fun h => absurd h (Nat.not_lt_zero _))) _ List.mem_cons_self
noncomputable def vp_927 : List vm_R := [(none, va_h168)]
noncomputable def ve_927 : List vm_E := [([.inr (.inr (some 70)), .inl (.ofNat 1, .ofNat 1)], va_h168, 0, [0])]
noncomputable def q_927 : vm_Q := (159, [.inr (.inr (some 70)), .inl (.ofNat 1, .ofNat 1)], va_h168, vp_927)
noncomputable def vk_927 : List vm_U := [(q_919, false, [])]
noncomputable def vf_927 : List ((Nat → am_I) → vm_A) := [fun v => (0, [(0, .inr (.inr (some 70))), (1, .inl (.ofNat 1, .ofNat 1))], [], (80, [(62, va_c53)])), fun v => (69, [(0, .inr (.inr (some 70))), (1, .inl am_top), (2, .inl (v 0))], [], (80, [(62, va_c53)]))]
noncomputable def vd_927_0_0 : List (List Nat) := [[65536, 65537, 4295032833, 8590000129, 12884967425, 67108865]]
noncomputable def vd_927_0 : List (List (List Nat)) := [vd_927_0_0]
noncomputable def vd_927 : List (List (List (List Nat))) := [vd_927_0]
noncomputable def vt_927 : List (List am_I) := []
noncomputable def vc_927 : vm_C := (fun _ => vp_927, fun pc => [], [69], 6, vm_inst 8 5 vt_927 vf_927 vd_927)
theorem vx_927_0 : vm_chk bt_159 [] vk_927 18 vc_927 0 6 = true := by decide +kernel
theorem vy_927 : vm_ents 159 18 vc_927 ve_927 = true := by decide +kernel
theorem vw_927 : ∀ q ∈ vk_927, vm_wt 3 q := vm_wts (vm_kc (vm_up v_919 rfl) vm_kn) (by decide +kernel)
theorem v_927 : vm_at 4 q_927 := vm_ok (inl := []) (es := ve_927) bq_159 (by decide) vw_927 vy_927 (fun i => vm_hc vx_927_0 rfl (fun h => absurd h (Nat.not_lt_zero _))) _ List.mem_cons_self
noncomputable def vp_928 : List vm_R := [(none, va_h168)]
noncomputable def ve_928 : List vm_E := [([.inr (.inr (some 70)), .inl (.ofNat 2, .ofNat 2)], va_h168, 0, [0])]
noncomputable def q_928 : vm_Q := (159, [.inr (.inr (some 70)), .inl (.ofNat 2, .ofNat 2)], va_h168, vp_928)
noncomputable def vk_928 : List vm_U := [(q_920, false, [])]
noncomputable def vf_928 : List ((Nat → am_I) → vm_A) := [fun v => (0, [(0, .inr (.inr (some 70))), (1, .inl (.ofNat 2, .ofNat 2))], [], (80, [(62, va_c53)]))]
noncomputable def vd_928_0_0 : List (List Nat) := [[0]]
noncomputable def vd_928_0 : List (List (List Nat)) := [vd_928_0_0]
noncomputable def vd_928 : List (List (List (List Nat))) := [vd_928_0]
noncomputable def vt_928 : List (List am_I) := []
noncomputable def vc_928 : vm_C := (fun _ => vp_928, fun pc => [], [69], 1, vm_inst 8 1 vt_928 vf_928 vd_928)
theorem vx_928_0 : vm_chk bt_159 [] vk_928 14 vc_928 0 1 = true := by decide +kernel
theorem vy_928 : vm_ents 159 14 vc_928 ve_928 = true := by decide +kernel
theorem vw_928 : ∀ q ∈ vk_928, vm_wt 3 q := vm_wts (vm_kc (vm_up v_920 rfl) vm_kn) (by decide +kernel)
theorem v_928 : vm_at 4 q_928 := vm_ok (inl := []) (es := ve_928) bq_159 (by decide) vw_928 vy_928 (fun i => vm_hc vx_928_0 rfl (fun h => absurd h (Nat.not_lt_zero _))) _ List.mem_cons_self
noncomputable def vp_929 : List vm_R := [(none, va_h168)]
noncomputable def ve_929 : List vm_E := [([.inr (.inr (some 70)), .inl (.ofNat 3, .ofNat 3)], va_h168, 0, [0])]
noncomputable def q_929 : vm_Q := (159, [.inr (.inr (some 70)), .inl (.ofNat 3, .ofNat 3)], va_h168, vp_929)
noncomputable def vk_929 : List vm_U := [(q_923, false, [])]
noncomputable def vf_929 : List ((Nat → am_I) → vm_A) := [fun v => (0, [(0, .inr (.inr (some 70))), (1, .inl (.ofNat 3, .ofNat 3))], [], (80, [(62, va_c53)]))]
noncomputable def vd_929_0_0 : List (List Nat) := [[0]]
noncomputable def vd_929_0 : List (List (List Nat)) := [vd_929_0_0]
noncomputable def vd_929 : List (List (List (List Nat))) := [vd_929_0]
noncomputable def vt_929 : List (List am_I) := []
noncomputable def vc_929 : vm_C := (fun _ => vp_929, fun pc => [], [69], 1, vm_inst 8 1 vt_929 vf_929 vd_929)
theorem vx_929_0 : vm_chk bt_159 [] vk_929 20 vc_929 0 1 = true := by decide +kernel
theorem vy_929 : vm_ents 159 20 vc_929 ve_929 = true := by decide +kernel
theorem vw_929 : ∀ q ∈ vk_929, vm_wt 3 q := vm_wts (vm_kc (vm_up v_923 rfl) vm_kn) (by decide +kernel)
theorem v_929 : vm_at 4 q_929 := vm_ok (inl := []) (es := ve_929) bq_159 (by decide) vw_929 vy_929 (fun i => vm_hc vx_929_0 rfl (fun h => absurd h (Nat.not_lt_zero _))) _ List.mem_cons_self
noncomputable def vp_930 : List vm_R := [(none, va_h168)]
noncomputable def ve_930 : List vm_E := [([.inr (.inr (some 70)), .inl (.ofNat 6, .ofNat 6)], va_h168, 0, [0])]
noncomputable def q_930 : vm_Q := (159, [.inr (.inr (some 70)), .inl (.ofNat 6, .ofNat 6)], va_h168, vp_930)
noncomputable def vk_930 : List vm_U := [(q_925, false, [])]
noncomputable def vf_930 : List ((Nat → am_I) → vm_A) := [fun v => (0, [(0, .inr (.inr (some 70))), (1, .inl (.ofNat 6, .ofNat 6))], [], (80, [(62, va_c53)]))]
noncomputable def vd_930_0_0 : List (List Nat) := [[0]]
noncomputable def vd_930_0 : List (List (List Nat)) := [vd_930_0_0]
noncomputable def vd_930 : List (List (List (List Nat))) := [vd_930_0]
noncomputable def vt_930 : List (List am_I) := []
noncomputable def vc_930 : vm_C := (fun _ => vp_930, fun pc => [], [69], 1, vm_inst 8 1 vt_930 vf_930 vd_930)
theorem vx_930_0 : vm_chk bt_159 [] vk_930 8 vc_930 0 1 = true := by decide +kernel
theorem vy_930 : vm_ents 159 8 vc_930 ve_930 = true := by decide +kernel
theorem vw_930 : ∀ q ∈ vk_930, vm_wt 4 q := vm_wts (vm_kc (vm_up v_925 rfl) vm_kn) (by decide +kernel)
theorem v_930 : vm_at 5 q_930 := vm_ok (inl := []) (es := ve_930) bq_159 (by decide) vw_930 vy_930 (fun i => vm_hc vx_930_0 rfl (fun h => absurd h (Nat.not_lt_zero _))) _ List.mem_cons_self
noncomputable def vp_931 : List vm_R := [(none, va_h168)]
noncomputable def ve_931 : List vm_E := [([.inr (.inr (some 70)), .inl (.ofNat 4, .ofNat 4)], va_h341, 0, [0])]
noncomputable def q_931 : vm_Q := (159, [.inr (.inr (some 70)), .inl (.ofNat 4, .ofNat 4)], va_h341, vp_931)
noncomputable def vk_931 : List vm_U := [(q_522, true, []), (q_924, false, [])]
noncomputable def vf_931 : List ((Nat → am_I) → vm_A) := [fun v => (0, [(0, .inr (.inr (some 70))), (1, .inl (.ofNat 4, .ofNat 4))], [], (80, [(62, va_c226)]))]
noncomputable def vd_931_0_0 : List (List Nat) := [[0]]
noncomputable def vd_931_0 : List (List (List Nat)) := [vd_931_0_0]
noncomputable def vd_931 : List (List (List (List Nat))) := [vd_931_0]
noncomputable def vt_931 : List (List am_I) := []
noncomputable def vc_931 : vm_C := (fun _ => vp_931, fun pc => [], [69], 1, vm_inst 8 1 vt_931 vf_931 vd_931)
theorem vx_931_0 : vm_chk bt_159 [] vk_931 12 vc_931 0 1 = true := by decide +kernel
theorem vy_931 : vm_ents 159 12 vc_931 ve_931 = true := by decide +kernel
theorem vw_931 : ∀ q ∈ vk_931, vm_wt 4 q := vm_wts (vm_kc (vm_up v_522 rfl) (vm_kc (vm_up v_924 rfl) vm_kn)) (by decide +kernel)
theorem v_931 : vm_at 5 q_931 := vm_ok (inl := []) (es := ve_931) bq_159 (by decide) vw_931 vy_931 (fun i => vm_hc vx_931_0 rfl (fun h => absurd h (Nat.not_lt_zero _))) _ List.mem_cons_self
noncomputable def vp_932 : List vm_R := [(none, va_h168)]
noncomputable def ve_932 : List vm_E := [([.inr (.inr (some 70)), .inl (.ofNat 5, .ofNat 5)], va_h341, 0, [0])]
noncomputable def q_932 : vm_Q := (159, [.inr (.inr (some 70)), .inl (.ofNat 5, .ofNat 5)], va_h341, vp_932)
noncomputable def vk_932 : List vm_U := [(q_521, true, []), (q_924, false, [])]
noncomputable def vf_932 : List ((Nat → am_I) → vm_A) := [fun v => (0, [(0, .inr (.inr (some 70))), (1, .inl (.ofNat 5, .ofNat 5))], [], (80, [(62, va_c226)]))]
noncomputable def vd_932_0_0 : List (List Nat) := [[0]]
noncomputable def vd_932_0 : List (List (List Nat)) := [vd_932_0_0]
noncomputable def vd_932 : List (List (List (List Nat))) := [vd_932_0]
noncomputable def vt_932 : List (List am_I) := []
noncomputable def vc_932 : vm_C := (fun _ => vp_932, fun pc => [], [69], 1, vm_inst 8 1 vt_932 vf_932 vd_932)
theorem vx_932_0 : vm_chk bt_159 [] vk_932 13 vc_932 0 1 = true := by decide +kernel
theorem vy_932 : vm_ents 159 13 vc_932 ve_932 = true := by decide +kernel
theorem vw_932 : ∀ q ∈ vk_932, vm_wt 4 q := vm_wts (vm_kc (vm_up v_521 rfl) (vm_kc (vm_up v_924 rfl) vm_kn)) (by decide +kernel)
theorem v_932 : vm_at 5 q_932 := vm_ok (inl := []) (es := ve_932) bq_159 (by decide) vw_932 vy_932 (fun i => vm_hc vx_932_0 rfl (fun h => absurd h (Nat.not_lt_zero _))) _ List.mem_cons_self
noncomputable def va_c227 : am_C := .inr (.inr (.inr (7, [.inr (.inr (some 71)), .inr (.inr (some 72)), .inl (.ofNat 2, .ofNat 5), .inl (.ofNat 2, .ofNat 5), .inl (.ofNat 0, .ofNat 5), .inr (.inr (some 73)), .inl (.ofNat 2, .ofNat 5), .inl (.ofNat 2, .ofNat 5), .inl (.ofNat 0, .ofNat 5), .inl am_top, .inl am_top, .inl am_top, .inr (.inr (some 74)), .inl (.ofNat 0, .ofNat 160), .inl (.ofNat 160, .ofNat 160), .inl (.ofNat 0, .ofNat 160), .inl (.ofNat 0, .ofNat 0), .inl am_top, .inl (.ofNat 0, .ofNat 0), .inl am_top, .inr (.inr (some 75)), .inr (.inr (some 76)), .inr (.inr (some 77)), .inr (.inr (some 78)), .inr (.inr (some 79)), .inr (.inr (some 80)), .inr (.inr (some 81)), .inl (.negSucc 0, .ofNat 6), .inr (.inr (some 82)), .inr (.inr (some 83)), .inr (.inr (some 84)), .inr (.inr (some 85)), .inr (.inr (some 86)), .inl am_top, .inr (.inr (some 87))])))
noncomputable def va_h342 : am_H := (80, [(62, va_c227)])
noncomputable def vp_933 : List vm_R := [(some (.inl (.ofNat 0, .ofNat 5)), va_h168), (some (.inl (.ofNat 2, .ofNat 5)), va_h342)]
noncomputable def ve_933 : List vm_E := [([.inr (.inr (some 70)), .inl (.ofNat 2, .ofNat 2), .inl (.ofNat 5, .ofNat 5)], va_h340, 0, [0])]
noncomputable def q_933 : vm_Q := (160, [.inr (.inr (some 70)), .inl (.ofNat 2, .ofNat 2), .inl (.ofNat 5, .ofNat 5)], va_h340, vp_933)
noncomputable def vk_933 : List vm_U := [((qj_898 160), false, [(7, 62, 6), (7, 62, 7)]), (q_899, false, [(7, 62, 6), (7, 62, 7)]), (q_863, false, [(7, 62, 14), (7, 62, 17)])]
noncomputable def vf_933 : List ((Nat → am_I) → vm_A) := [fun v => (0, [(0, .inr (.inr (some 70))), (1, .inl (.ofNat 2, .ofNat 2)), (2, .inl (.ofNat 5, .ofNat 5))], [], (80, [(62, va_c225)]))]
noncomputable def vd_933_0_0 : List (List Nat) := [[0]]
noncomputable def vd_933_0 : List (List (List Nat)) := [vd_933_0_0]
noncomputable def vd_933 : List (List (List (List Nat))) := [vd_933_0]
noncomputable def vt_933 : List (List am_I) := []
noncomputable def vc_933 : vm_C := (fun _ => vp_933, fun pc => [], [], 1, vm_inst 8 1 vt_933 vf_933 vd_933)
theorem vx_933_0 : vm_chk bt_160 [] vk_933 11 vc_933 0 1 = true := by decide +kernel
theorem vy_933 : vm_ents 160 11 vc_933 ve_933 = true := by decide +kernel
theorem vw_933 : ∀ q ∈ vk_933, vm_wt 3 q := vm_wts (vm_kc (vm_up (vj_898 160 (by decide)) rfl) (vm_kc (vm_up v_899 rfl) (vm_kc (vm_up v_863 rfl) vm_kn))) (by decide +kernel)
theorem v_933 : vm_at 4 q_933 := vm_ok (inl := []) (es := ve_933) bq_160 (by decide) vw_933 vy_933 (fun i => vm_hc vx_933_0 rfl (fun h => absurd h (Nat.not_lt_zero _))) _ List.mem_cons_self
noncomputable def va_c228 : am_C := .inr (.inr (.inr (7, [.inr (.inr (some 71)), .inr (.inr (some 72)), .inl (.ofNat 2, .ofNat 5), .inl (.ofNat 2, .ofNat 5), .inl (.ofNat 0, .ofNat 5), .inr (.inr (some 73)), .inl (.ofNat 2, .ofNat 5), .inl (.ofNat 2, .ofNat 5), .inl (.ofNat 0, .ofNat 5), .inl am_top, .inl am_top, .inl am_top, .inr (.inr (some 74)), .inl (.ofNat 0, .ofNat 160), .inl (.ofNat 0, .ofNat 160), .inl (.ofNat 0, .ofNat 160), .inl (.ofNat 0, .ofNat 0), .inl am_top, .inl (.ofNat 0, .ofNat 0), .inl am_top, .inr (.inr (some 75)), .inr (.inr (some 76)), .inr (.inr (some 77)), .inr (.inr (some 78)), .inr (.inr (some 79)), .inr (.inr (some 80)), .inr (.inr (some 81)), .inl (.negSucc 0, .ofNat 6), .inr (.inr (some 82)), .inr (.inr (some 83)), .inr (.inr (some 84)), .inr (.inr (some 85)), .inr (.inr (some 86)), .inl am_top, .inr (.inr (some 87))])))
noncomputable def va_h343 : am_H := (80, [(62, va_c228)])
noncomputable def va_c229 : am_C := .inr (.inr (.inr (7, [.inr (.inr (some 71)), .inr (.inr (some 72)), .inl (.ofNat 2, .ofNat 5), .inl (.ofNat 2, .ofNat 5), .inl (.ofNat 0, .ofNat 5), .inr (.inr (some 73)), .inl (.ofNat 2, .ofNat 5), .inl (.ofNat 2, .ofNat 5), .inl (.ofNat 0, .ofNat 5), .inl am_top, .inl am_top, .inl am_top, .inr (.inr (some 74)), .inl (.ofNat 0, .ofNat 160), .inl (.ofNat 1, .ofNat 160), .inl (.ofNat 0, .ofNat 160), .inl (.ofNat 1, .ofNat 3), .inl am_top, .inl (.ofNat 0, .ofNat 0), .inl am_top, .inr (.inr (some 75)), .inr (.inr (some 76)), .inr (.inr (some 77)), .inr (.inr (some 78)), .inr (.inr (some 79)), .inr (.inr (some 80)), .inr (.inr (some 81)), .inl (.negSucc 0, .ofNat 6), .inr (.inr (some 82)), .inr (.inr (some 83)), .inr (.inr (some 84)), .inr (.inr (some 85)), .inr (.inr (some 86)), .inl am_top, .inr (.inr (some 87))])))
noncomputable def va_h344 : am_H := (80, [(62, va_c229)])
noncomputable def vp_3493 : List vm_R := [(some (.inl (.ofNat 0, .ofNat 5)), va_h168), (some (.inl (.ofNat 2, .ofNat 5)), va_h343), (some (.inl (.ofNat 2, .ofNat 5)), va_h344)]
noncomputable def ve_3493 : List vm_E := [([.inr (.inr (some 70)), .inl (.ofNat 2, .ofNat 2), .inl (.ofNat 5, .ofNat 5)], va_h167, 0, [0])]
noncomputable def q_3493 : vm_Q := (160, [.inr (.inr (some 70)), .inl (.ofNat 2, .ofNat 2), .inl (.ofNat 5, .ofNat 5)], va_h167, vp_3493)
noncomputable def vk_3493 : List vm_U := [((qj_898 0), false, [(7, 62, 6), (7, 62, 7)]), (q_899, false, [(7, 62, 6), (7, 62, 7)]), (q_863, false, [(7, 62, 17)])]
noncomputable def vf_3493 : List ((Nat → am_I) → vm_A) := [fun v => (0, [(0, .inr (.inr (some 70))), (1, .inl (.ofNat 2, .ofNat 2)), (2, .inl (.ofNat 5, .ofNat 5))], [], (80, [(62, va_c52)]))]
noncomputable def vd_3493_0_0 : List (List Nat) := [[0]]
noncomputable def vd_3493_0 : List (List (List Nat)) := [vd_3493_0_0]
noncomputable def vd_3493 : List (List (List (List Nat))) := [vd_3493_0]
noncomputable def vt_3493 : List (List am_I) := []
noncomputable def vc_3493 : vm_C := (fun _ => vp_3493, fun pc => [], [], 1, vm_inst 8 1 vt_3493 vf_3493 vd_3493)
theorem vx_3493_0 : vm_chk bt_160 [] vk_3493 11 vc_3493 0 1 = true := by decide +kernel
theorem vy_3493 : vm_ents 160 11 vc_3493 ve_3493 = true := by decide +kernel
theorem vw_3493 : ∀ q ∈ vk_3493, vm_wt 3 q := vm_wts (vm_kc (vm_up (vj_898 0 (by decide)) rfl) (vm_kc (vm_up v_899 rfl) (vm_kc (vm_up v_863 rfl) vm_kn))) (by decide +kernel)
theorem v_3493 : vm_at 4 q_3493 := vm_ok (inl := []) (es := ve_3493) bq_160 (by decide) vw_3493 vy_3493 (fun i => vm_hc vx_3493_0 rfl (fun h => absurd h (Nat.not_lt_zero _))) _ List.mem_cons_self
noncomputable def vp_F_rn_2_5 (s : Nat) : List vm_R := [(some (.inl (.ofNat 0, .ofNat 5)), (80, [(62, .inr (.inr (.inr (7, [.inr (.inr (some 71)), .inr (.inr (some 72)), .inl (.ofNat 2, .ofNat 5), .inl (.ofNat 2, .ofNat 5), .inl (.ofNat 0, .ofNat 5), .inr (.inr (some 73)), .inl (.ofNat 0, .ofNat 5), .inl (.ofNat 0, .ofNat 5), .inl (.ofNat 0, .ofNat 5), .inl am_top, .inl am_top, .inl am_top, .inr (.inr (some 74)), .inl (.ofNat 0, .ofNat 160), .inl (.ofNat 0, .ofNat 160), .inl (.ofNat 0, .ofNat 160), .inl (.ofNat 0, .ofNat 3), .inl am_top, .inl (.ofNat 1, .ofNat 6), .inl am_top, .inr (.inr (some 75)), .inr (.inr (some 76)), .inr (.inr (some 77)), .inr (.inr (some 78)), .inr (.inr (some 79)), .inr (.inr (some 80)), .inr (.inr (some 81)), .inl (.negSucc 0, .ofNat 6), .inr (.inr (some 82)), .inr (.inr (some 83)), .inr (.inr (some 84)), .inr (.inr (some 85)), .inr (.inr (some 86)), .inl am_top, .inr (.inr (some 87))]))))])), (some (.inl (.ofNat 2, .ofNat 5)), (80, [(62, .inr (.inr (.inr (7, [.inr (.inr (some 71)), .inr (.inr (some 72)), .inl (.ofNat 2, .ofNat 5), .inl (.ofNat 2, .ofNat 5), .inl (.ofNat 0, .ofNat 5), .inr (.inr (some 73)), .inl (.ofNat 2, .ofNat 5), .inl (.ofNat 2, .ofNat 5), .inl (.ofNat 0, .ofNat 5), .inl am_top, .inl am_top, .inl am_top, .inr (.inr (some 74)), .inl (.ofNat 0, .ofNat 160), .inl (.ofNat (s + 0), .ofNat 160), .inl (.ofNat 0, .ofNat 160), .inl (.ofNat 0, .ofNat 0), .inl am_top, .inl (.ofNat 0, .ofNat 0), .inl am_top, .inr (.inr (some 75)), .inr (.inr (some 76)), .inr (.inr (some 77)), .inr (.inr (some 78)), .inr (.inr (some 79)), .inr (.inr (some 80)), .inr (.inr (some 81)), .inl (.negSucc 0, .ofNat 6), .inr (.inr (some 82)), .inr (.inr (some 83)), .inr (.inr (some 84)), .inr (.inr (some 85)), .inr (.inr (some 86)), .inl am_top, .inr (.inr (some 87))]))))])), (some (.inl (.ofNat 2, .ofNat 5)), (80, [(62, .inr (.inr (.inr (7, [.inr (.inr (some 71)), .inr (.inr (some 72)), .inl (.ofNat 2, .ofNat 5), .inl (.ofNat 2, .ofNat 5), .inl (.ofNat 0, .ofNat 5), .inr (.inr (some 73)), .inl (.ofNat 2, .ofNat 5), .inl (.ofNat 2, .ofNat 5), .inl (.ofNat 0, .ofNat 5), .inl am_top, .inl am_top, .inl am_top, .inr (.inr (some 74)), .inl (.ofNat 0, .ofNat 160), .inl (.ofNat (s + 1), .ofNat 160), .inl (.ofNat 0, .ofNat 160), .inl (.ofNat 1, .ofNat 3), .inl am_top, .inl (.ofNat 0, .ofNat 0), .inl am_top, .inr (.inr (some 75)), .inr (.inr (some 76)), .inr (.inr (some 77)), .inr (.inr (some 78)), .inr (.inr (some 79)), .inr (.inr (some 80)), .inr (.inr (some 81)), .inl (.negSucc 0, .ofNat 6), .inr (.inr (some 82)), .inr (.inr (some 83)), .inr (.inr (some 84)), .inr (.inr (some 85)), .inr (.inr (some 86)), .inl am_top, .inr (.inr (some 87))]))))]))]
noncomputable def vk_F_rn_2_5 (s : Nat) : List vm_U := [((qj_898 (s + 0)), false, [(7, 62, 6), (7, 62, 7)]), (q_899, false, [(7, 62, 6), (7, 62, 7)]), (q_863, false, [(7, 62, 14), (7, 62, 17)])]
noncomputable def vf_F_rn_2_5 (s : Nat) : List ((Nat → am_I) → vm_A) := [fun v => (0, [(0, .inr (.inr (some 70))), (1, .inl (.ofNat 2, .ofNat 2)), (2, .inl (.ofNat 5, .ofNat 5))], [], (80, [(62, .inr (.inr (.inr (7, [.inr (.inr (some 71)), .inr (.inr (some 72)), .inl (.ofNat 2, .ofNat 5), .inl (.ofNat 2, .ofNat 5), .inl (.ofNat 0, .ofNat 5), .inr (.inr (some 73)), .inl (.ofNat 2, .ofNat 5), .inl (.ofNat 2, .ofNat 5), .inl (.ofNat 0, .ofNat 5), .inl am_top, .inl am_top, .inl am_top, .inr (.inr (some 74)), .inl (.ofNat 0, .ofNat 160), .inl (.ofNat (s + 0), .ofNat 160), .inl (.ofNat 0, .ofNat 160), .inl (.ofNat 0, .ofNat 3), .inl am_top, .inl (.ofNat 0, .ofNat 0), .inl am_top, .inr (.inr (some 75)), .inr (.inr (some 76)), .inr (.inr (some 77)), .inr (.inr (some 78)), .inr (.inr (some 79)), .inr (.inr (some 80)), .inr (.inr (some 81)), .inl (.negSucc 0, .ofNat 6), .inr (.inr (some 82)), .inr (.inr (some 83)), .inr (.inr (some 84)), .inr (.inr (some 85)), .inr (.inr (some 86)), .inl am_top, .inr (.inr (some 87))]))))]))]
noncomputable def vd_F_rn_2_5_0_0 (s : Nat) : List (List Nat) := [[0]]
noncomputable def vd_F_rn_2_5_0 (s : Nat) : List (List (List Nat)) := [vd_F_rn_2_5_0_0 s]
noncomputable def vd_F_rn_2_5 (s : Nat) : List (List (List (List Nat))) := [vd_F_rn_2_5_0 s]
noncomputable def vt_F_rn_2_5 (s : Nat) : List (List am_I) := []
noncomputable def vc_F_rn_2_5 (s : Nat) : vm_C := (fun _ => vp_F_rn_2_5 s, fun pc => [], [], 1, vm_inst 8 1 (vt_F_rn_2_5 s) (vf_F_rn_2_5 s) (vd_F_rn_2_5 s))
noncomputable def ve_F_rn_2_5 (s : Nat) : List vm_E := [([.inr (.inr (some 70)), .inl (.ofNat 2, .ofNat 2), .inl (.ofNat 5, .ofNat 5)], (80, [(62, .inr (.inr (.inr (7, [.inr (.inr (some 71)), .inr (.inr (some 72)), .inl (.ofNat 2, .ofNat 5), .inl (.ofNat 2, .ofNat 5), .inl (.ofNat 0, .ofNat 5), .inr (.inr (some 73)), .inl (.ofNat 2, .ofNat 5), .inl (.ofNat 2, .ofNat 5), .inl (.ofNat 0, .ofNat 5), .inl am_top, .inl am_top, .inl am_top, .inr (.inr (some 74)), .inl (.ofNat 0, .ofNat 160), .inl (.ofNat (s + 0), .ofNat 160), .inl (.ofNat 0, .ofNat 160), .inl (.ofNat 0, .ofNat 3), .inl am_top, .inl (.ofNat 0, .ofNat 0), .inl am_top, .inr (.inr (some 75)), .inr (.inr (some 76)), .inr (.inr (some 77)), .inr (.inr (some 78)), .inr (.inr (some 79)), .inr (.inr (some 80)), .inr (.inr (some 81)), .inl (.negSucc 0, .ofNat 6), .inr (.inr (some 82)), .inr (.inr (some 83)), .inr (.inr (some 84)), .inr (.inr (some 85)), .inr (.inr (some 86)), .inl am_top, .inr (.inr (some 87))]))))]), 0, [0])]
noncomputable def q_F_rn_2_5 (s : Nat) : vm_Q := (160, [.inr (.inr (some 70)), .inl (.ofNat 2, .ofNat 2), .inl (.ofNat 5, .ofNat 5)], (80, [(62, .inr (.inr (.inr (7, [.inr (.inr (some 71)), .inr (.inr (some 72)), .inl (.ofNat 2, .ofNat 5), .inl (.ofNat 2, .ofNat 5), .inl (.ofNat 0, .ofNat 5), .inr (.inr (some 73)), .inl (.ofNat 2, .ofNat 5), .inl (.ofNat 2, .ofNat 5), .inl (.ofNat 0, .ofNat 5), .inl am_top, .inl am_top, .inl am_top, .inr (.inr (some 74)), .inl (.ofNat 0, .ofNat 160), .inl (.ofNat (s + 0), .ofNat 160), .inl (.ofNat 0, .ofNat 160), .inl (.ofNat 0, .ofNat 3), .inl am_top, .inl (.ofNat 0, .ofNat 0), .inl am_top, .inr (.inr (some 75)), .inr (.inr (some 76)), .inr (.inr (some 77)), .inr (.inr (some 78)), .inr (.inr (some 79)), .inr (.inr (some 80)), .inr (.inr (some 81)), .inl (.negSucc 0, .ofNat 6), .inr (.inr (some 82)), .inr (.inr (some 83)), .inr (.inr (some 84)), .inr (.inr (some 85)), .inr (.inr (some 86)), .inl am_top, .inr (.inr (some 87))]))))]), vp_F_rn_2_5 s)
theorem vx_F_rn_2_5_0 : vm_rng (fun s => vm_chk bt_160 [] (vk_F_rn_2_5 s) 11 (vc_F_rn_2_5 s) 0 1 && (vm_ents 160 11 (vc_F_rn_2_5 s) (ve_F_rn_2_5 s) && vm_kok (vk_F_rn_2_5 s))) 1 12 = true := by decide +kernel
theorem vx_F_rn_2_5_1 : vm_rng (fun s => vm_chk bt_160 [] (vk_F_rn_2_5 s) 11 (vc_F_rn_2_5 s) 0 1 && (vm_ents 160 11 (vc_F_rn_2_5 s) (ve_F_rn_2_5 s) && vm_kok (vk_F_rn_2_5 s))) 13 12 = true := by decide +kernel
theorem vx_F_rn_2_5_2 : vm_rng (fun s => vm_chk bt_160 [] (vk_F_rn_2_5 s) 11 (vc_F_rn_2_5 s) 0 1 && (vm_ents 160 11 (vc_F_rn_2_5 s) (ve_F_rn_2_5 s) && vm_kok (vk_F_rn_2_5 s))) 25 12 = true := by decide +kernel
theorem vx_F_rn_2_5_3 : vm_rng (fun s => vm_chk bt_160 [] (vk_F_rn_2_5 s) 11 (vc_F_rn_2_5 s) 0 1 && (vm_ents 160 11 (vc_F_rn_2_5 s) (ve_F_rn_2_5 s) && vm_kok (vk_F_rn_2_5 s))) 37 12 = true := by decide +kernel
theorem vx_F_rn_2_5_4 : vm_rng (fun s => vm_chk bt_160 [] (vk_F_rn_2_5 s) 11 (vc_F_rn_2_5 s) 0 1 && (vm_ents 160 11 (vc_F_rn_2_5 s) (ve_F_rn_2_5 s) && vm_kok (vk_F_rn_2_5 s))) 49 12 = true := by decide +kernel
theorem vx_F_rn_2_5_5 : vm_rng (fun s => vm_chk bt_160 [] (vk_F_rn_2_5 s) 11 (vc_F_rn_2_5 s) 0 1 && (vm_ents 160 11 (vc_F_rn_2_5 s) (ve_F_rn_2_5 s) && vm_kok (vk_F_rn_2_5 s))) 61 12 = true := by decide +kernel
theorem vx_F_rn_2_5_6 : vm_rng (fun s => vm_chk bt_160 [] (vk_F_rn_2_5 s) 11 (vc_F_rn_2_5 s) 0 1 && (vm_ents 160 11 (vc_F_rn_2_5 s) (ve_F_rn_2_5 s) && vm_kok (vk_F_rn_2_5 s))) 73 12 = true := by decide +kernel
theorem vx_F_rn_2_5_7 : vm_rng (fun s => vm_chk bt_160 [] (vk_F_rn_2_5 s) 11 (vc_F_rn_2_5 s) 0 1 && (vm_ents 160 11 (vc_F_rn_2_5 s) (ve_F_rn_2_5 s) && vm_kok (vk_F_rn_2_5 s))) 85 12 = true := by decide +kernel
theorem vx_F_rn_2_5_8 : vm_rng (fun s => vm_chk bt_160 [] (vk_F_rn_2_5 s) 11 (vc_F_rn_2_5 s) 0 1 && (vm_ents 160 11 (vc_F_rn_2_5 s) (ve_F_rn_2_5 s) && vm_kok (vk_F_rn_2_5 s))) 97 12 = true := by decide +kernel
theorem vx_F_rn_2_5_9 : vm_rng (fun s => vm_chk bt_160 [] (vk_F_rn_2_5 s) 11 (vc_F_rn_2_5 s) 0 1 && (vm_ents 160 11 (vc_F_rn_2_5 s) (ve_F_rn_2_5 s) && vm_kok (vk_F_rn_2_5 s))) 109 12 = true := by decide +kernel
theorem vx_F_rn_2_5_10 : vm_rng (fun s => vm_chk bt_160 [] (vk_F_rn_2_5 s) 11 (vc_F_rn_2_5 s) 0 1 && (vm_ents 160 11 (vc_F_rn_2_5 s) (ve_F_rn_2_5 s) && vm_kok (vk_F_rn_2_5 s))) 121 12 = true := by decide +kernel
theorem vx_F_rn_2_5_11 : vm_rng (fun s => vm_chk bt_160 [] (vk_F_rn_2_5 s) 11 (vc_F_rn_2_5 s) 0 1 && (vm_ents 160 11 (vc_F_rn_2_5 s) (ve_F_rn_2_5 s) && vm_kok (vk_F_rn_2_5 s))) 133 12 = true := by decide +kernel
theorem vx_F_rn_2_5_12 : vm_rng (fun s => vm_chk bt_160 [] (vk_F_rn_2_5 s) 11 (vc_F_rn_2_5 s) 0 1 && (vm_ents 160 11 (vc_F_rn_2_5 s) (ve_F_rn_2_5 s) && vm_kok (vk_F_rn_2_5 s))) 145 12 = true := by decide +kernel
theorem vx_F_rn_2_5_13 : vm_rng (fun s => vm_chk bt_160 [] (vk_F_rn_2_5 s) 11 (vc_F_rn_2_5 s) 0 1 && (vm_ents 160 11 (vc_F_rn_2_5 s) (ve_F_rn_2_5 s) && vm_kok (vk_F_rn_2_5 s))) 157 3 = true := by decide +kernel
set_option maxRecDepth 20000 in
theorem vz_F_rn_2_5 (s : Nat) (h1 : 1 ≤ s) (h2 : s < 160) : (vm_chk bt_160 [] (vk_F_rn_2_5 s) 11 (vc_F_rn_2_5 s) 0 1 && (vm_ents 160 11 (vc_F_rn_2_5 s) (ve_F_rn_2_5 s) && vm_kok (vk_F_rn_2_5 s))) = true := by
  by_cases g0 : s < 13
  · exact vm_rng_ok vx_F_rn_2_5_0 s (by omega) (by omega)
  by_cases g1 : s < 25
  · exact vm_rng_ok vx_F_rn_2_5_1 s (by omega) (by omega)
  by_cases g2 : s < 37
  · exact vm_rng_ok vx_F_rn_2_5_2 s (by omega) (by omega)
  by_cases g3 : s < 49
  · exact vm_rng_ok vx_F_rn_2_5_3 s (by omega) (by omega)
  by_cases g4 : s < 61
  · exact vm_rng_ok vx_F_rn_2_5_4 s (by omega) (by omega)
  by_cases g5 : s < 73
  · exact vm_rng_ok vx_F_rn_2_5_5 s (by omega) (by omega)
  by_cases g6 : s < 85
  · exact vm_rng_ok vx_F_rn_2_5_6 s (by omega) (by omega)
  by_cases g7 : s < 97
  · exact vm_rng_ok vx_F_rn_2_5_7 s (by omega) (by omega)
  by_cases g8 : s < 109
  · exact vm_rng_ok vx_F_rn_2_5_8 s (by omega) (by omega)
  by_cases g9 : s < 121
  · exact vm_rng_ok vx_F_rn_2_5_9 s (by omega) (by omega)
  by_cases g10 : s < 133
  · exact vm_rng_ok vx_F_rn_2_5_10 s (by omega) (by omega)
  by_cases g11 : s < 145
  · exact vm_rng_ok vx_F_rn_2_5_11 s (by omega) (by omega)
  by_cases g12 : s < 157
  · exact vm_rng_ok vx_F_rn_2_5_12 s (by omega) (by omega)
  exact vm_rng_ok vx_F_rn_2_5_13 s (by omega) (by omega)
theorem v_F_rn_2_5 (s : Nat) (h1 : 1 ≤ s) (h2 : s < 160) : vm_at 4 (q_F_rn_2_5 s) := by
  have h := vz_F_rn_2_5 s h1 h2
  rw [Bool.and_eq_true, Bool.and_eq_true] at h
  exact vm_ok (inl := []) (es := ve_F_rn_2_5 s) bq_160 (by decide) (vm_wts (L := 3) (vm_kc (vm_up (vj_898 (s + 0) (by omega)) rfl) (vm_kc (vm_up v_899 rfl) (vm_kc (vm_up v_863 rfl) vm_kn))) h.2.2) h.2.1 (fun i => vm_hc h.1 rfl (fun h => absurd h (Nat.not_lt_zero _))) _ List.mem_cons_self
noncomputable def vp_934 : List vm_R := [(some (.inl (.ofNat 0, .ofNat 9)), va_h168), (some (.inl (.ofNat 0, .ofNat 9)), va_h342)]
noncomputable def ve_934 : List vm_E := [([.inr (.inr (some 70)), .inl (.ofNat 0, .ofNat 0), .inl (.ofNat 9, .ofNat 9)], va_h340, 0, [0])]
noncomputable def q_934 : vm_Q := (160, [.inr (.inr (some 70)), .inl (.ofNat 0, .ofNat 0), .inl (.ofNat 9, .ofNat 9)], va_h340, vp_934)
noncomputable def vk_934 : List vm_U := [((qj_898 160), false, [(7, 62, 6), (7, 62, 7)]), (q_899, false, [(7, 62, 6), (7, 62, 7)]), (q_867, false, [(7, 62, 14), (7, 62, 17)])]
noncomputable def vf_934 : List ((Nat → am_I) → vm_A) := [fun v => (0, [(0, .inr (.inr (some 70))), (1, .inl (.ofNat 0, .ofNat 0)), (2, .inl (.ofNat 9, .ofNat 9))], [], (80, [(62, va_c225)]))]
noncomputable def vd_934_0_0 : List (List Nat) := [[0]]
noncomputable def vd_934_0 : List (List (List Nat)) := [vd_934_0_0]
noncomputable def vd_934 : List (List (List (List Nat))) := [vd_934_0]
noncomputable def vt_934 : List (List am_I) := []
noncomputable def vc_934 : vm_C := (fun _ => vp_934, fun pc => [], [], 1, vm_inst 8 1 vt_934 vf_934 vd_934)
theorem vx_934_0 : vm_chk bt_160 [] vk_934 11 vc_934 0 1 = true := by decide +kernel
theorem vy_934 : vm_ents 160 11 vc_934 ve_934 = true := by decide +kernel
theorem vw_934 : ∀ q ∈ vk_934, vm_wt 3 q := vm_wts (vm_kc (vm_up (vj_898 160 (by decide)) rfl) (vm_kc (vm_up v_899 rfl) (vm_kc (vm_up v_867 rfl) vm_kn))) (by decide +kernel)
theorem v_934 : vm_at 4 q_934 := vm_ok (inl := []) (es := ve_934) bq_160 (by decide) vw_934 vy_934 (fun i => vm_hc vx_934_0 rfl (fun h => absurd h (Nat.not_lt_zero _))) _ List.mem_cons_self
noncomputable def vp_3494 : List vm_R := [(some (.inl (.ofNat 0, .ofNat 9)), va_h168), (some (.inl (.ofNat 0, .ofNat 9)), va_h343), (some (.inl (.ofNat 0, .ofNat 9)), va_h344)]
noncomputable def ve_3494 : List vm_E := [([.inr (.inr (some 70)), .inl (.ofNat 0, .ofNat 0), .inl (.ofNat 9, .ofNat 9)], va_h167, 0, [0])]
noncomputable def q_3494 : vm_Q := (160, [.inr (.inr (some 70)), .inl (.ofNat 0, .ofNat 0), .inl (.ofNat 9, .ofNat 9)], va_h167, vp_3494)
noncomputable def vk_3494 : List vm_U := [((qj_898 0), false, [(7, 62, 6), (7, 62, 7)]), (q_899, false, [(7, 62, 6), (7, 62, 7)]), (q_867, false, [(7, 62, 17)])]
noncomputable def vf_3494 : List ((Nat → am_I) → vm_A) := [fun v => (0, [(0, .inr (.inr (some 70))), (1, .inl (.ofNat 0, .ofNat 0)), (2, .inl (.ofNat 9, .ofNat 9))], [], (80, [(62, va_c52)]))]
noncomputable def vd_3494_0_0 : List (List Nat) := [[0]]
noncomputable def vd_3494_0 : List (List (List Nat)) := [vd_3494_0_0]
noncomputable def vd_3494 : List (List (List (List Nat))) := [vd_3494_0]
noncomputable def vt_3494 : List (List am_I) := []
noncomputable def vc_3494 : vm_C := (fun _ => vp_3494, fun pc => [], [], 1, vm_inst 8 1 vt_3494 vf_3494 vd_3494)
theorem vx_3494_0 : vm_chk bt_160 [] vk_3494 11 vc_3494 0 1 = true := by decide +kernel
theorem vy_3494 : vm_ents 160 11 vc_3494 ve_3494 = true := by decide +kernel
theorem vw_3494 : ∀ q ∈ vk_3494, vm_wt 3 q := vm_wts (vm_kc (vm_up (vj_898 0 (by decide)) rfl) (vm_kc (vm_up v_899 rfl) (vm_kc (vm_up v_867 rfl) vm_kn))) (by decide +kernel)
theorem v_3494 : vm_at 4 q_3494 := vm_ok (inl := []) (es := ve_3494) bq_160 (by decide) vw_3494 vy_3494 (fun i => vm_hc vx_3494_0 rfl (fun h => absurd h (Nat.not_lt_zero _))) _ List.mem_cons_self
noncomputable def vp_F_rn_0_9 (s : Nat) : List vm_R := [(some (.inl (.ofNat 0, .ofNat 9)), (80, [(62, .inr (.inr (.inr (7, [.inr (.inr (some 71)), .inr (.inr (some 72)), .inl (.ofNat 2, .ofNat 5), .inl (.ofNat 2, .ofNat 5), .inl (.ofNat 0, .ofNat 5), .inr (.inr (some 73)), .inl (.ofNat 0, .ofNat 5), .inl (.ofNat 0, .ofNat 5), .inl (.ofNat 0, .ofNat 5), .inl am_top, .inl am_top, .inl am_top, .inr (.inr (some 74)), .inl (.ofNat 0, .ofNat 160), .inl (.ofNat 0, .ofNat 160), .inl (.ofNat 0, .ofNat 160), .inl (.ofNat 0, .ofNat 3), .inl am_top, .inl (.ofNat 1, .ofNat 6), .inl am_top, .inr (.inr (some 75)), .inr (.inr (some 76)), .inr (.inr (some 77)), .inr (.inr (some 78)), .inr (.inr (some 79)), .inr (.inr (some 80)), .inr (.inr (some 81)), .inl (.negSucc 0, .ofNat 6), .inr (.inr (some 82)), .inr (.inr (some 83)), .inr (.inr (some 84)), .inr (.inr (some 85)), .inr (.inr (some 86)), .inl am_top, .inr (.inr (some 87))]))))])), (some (.inl (.ofNat 0, .ofNat 9)), (80, [(62, .inr (.inr (.inr (7, [.inr (.inr (some 71)), .inr (.inr (some 72)), .inl (.ofNat 2, .ofNat 5), .inl (.ofNat 2, .ofNat 5), .inl (.ofNat 0, .ofNat 5), .inr (.inr (some 73)), .inl (.ofNat 2, .ofNat 5), .inl (.ofNat 2, .ofNat 5), .inl (.ofNat 0, .ofNat 5), .inl am_top, .inl am_top, .inl am_top, .inr (.inr (some 74)), .inl (.ofNat 0, .ofNat 160), .inl (.ofNat (s + 0), .ofNat 160), .inl (.ofNat 0, .ofNat 160), .inl (.ofNat 0, .ofNat 0), .inl am_top, .inl (.ofNat 0, .ofNat 0), .inl am_top, .inr (.inr (some 75)), .inr (.inr (some 76)), .inr (.inr (some 77)), .inr (.inr (some 78)), .inr (.inr (some 79)), .inr (.inr (some 80)), .inr (.inr (some 81)), .inl (.negSucc 0, .ofNat 6), .inr (.inr (some 82)), .inr (.inr (some 83)), .inr (.inr (some 84)), .inr (.inr (some 85)), .inr (.inr (some 86)), .inl am_top, .inr (.inr (some 87))]))))])), (some (.inl (.ofNat 0, .ofNat 9)), (80, [(62, .inr (.inr (.inr (7, [.inr (.inr (some 71)), .inr (.inr (some 72)), .inl (.ofNat 2, .ofNat 5), .inl (.ofNat 2, .ofNat 5), .inl (.ofNat 0, .ofNat 5), .inr (.inr (some 73)), .inl (.ofNat 2, .ofNat 5), .inl (.ofNat 2, .ofNat 5), .inl (.ofNat 0, .ofNat 5), .inl am_top, .inl am_top, .inl am_top, .inr (.inr (some 74)), .inl (.ofNat 0, .ofNat 160), .inl (.ofNat (s + 1), .ofNat 160), .inl (.ofNat 0, .ofNat 160), .inl (.ofNat 1, .ofNat 3), .inl am_top, .inl (.ofNat 0, .ofNat 0), .inl am_top, .inr (.inr (some 75)), .inr (.inr (some 76)), .inr (.inr (some 77)), .inr (.inr (some 78)), .inr (.inr (some 79)), .inr (.inr (some 80)), .inr (.inr (some 81)), .inl (.negSucc 0, .ofNat 6), .inr (.inr (some 82)), .inr (.inr (some 83)), .inr (.inr (some 84)), .inr (.inr (some 85)), .inr (.inr (some 86)), .inl am_top, .inr (.inr (some 87))]))))]))]
noncomputable def vk_F_rn_0_9 (s : Nat) : List vm_U := [((qj_898 (s + 0)), false, [(7, 62, 6), (7, 62, 7)]), (q_899, false, [(7, 62, 6), (7, 62, 7)]), (q_867, false, [(7, 62, 14), (7, 62, 17)])]
noncomputable def vf_F_rn_0_9 (s : Nat) : List ((Nat → am_I) → vm_A) := [fun v => (0, [(0, .inr (.inr (some 70))), (1, .inl (.ofNat 0, .ofNat 0)), (2, .inl (.ofNat 9, .ofNat 9))], [], (80, [(62, .inr (.inr (.inr (7, [.inr (.inr (some 71)), .inr (.inr (some 72)), .inl (.ofNat 2, .ofNat 5), .inl (.ofNat 2, .ofNat 5), .inl (.ofNat 0, .ofNat 5), .inr (.inr (some 73)), .inl (.ofNat 2, .ofNat 5), .inl (.ofNat 2, .ofNat 5), .inl (.ofNat 0, .ofNat 5), .inl am_top, .inl am_top, .inl am_top, .inr (.inr (some 74)), .inl (.ofNat 0, .ofNat 160), .inl (.ofNat (s + 0), .ofNat 160), .inl (.ofNat 0, .ofNat 160), .inl (.ofNat 0, .ofNat 3), .inl am_top, .inl (.ofNat 0, .ofNat 0), .inl am_top, .inr (.inr (some 75)), .inr (.inr (some 76)), .inr (.inr (some 77)), .inr (.inr (some 78)), .inr (.inr (some 79)), .inr (.inr (some 80)), .inr (.inr (some 81)), .inl (.negSucc 0, .ofNat 6), .inr (.inr (some 82)), .inr (.inr (some 83)), .inr (.inr (some 84)), .inr (.inr (some 85)), .inr (.inr (some 86)), .inl am_top, .inr (.inr (some 87))]))))]))]
noncomputable def vd_F_rn_0_9_0_0 (s : Nat) : List (List Nat) := [[0]]
noncomputable def vd_F_rn_0_9_0 (s : Nat) : List (List (List Nat)) := [vd_F_rn_0_9_0_0 s]
noncomputable def vd_F_rn_0_9 (s : Nat) : List (List (List (List Nat))) := [vd_F_rn_0_9_0 s]
noncomputable def vt_F_rn_0_9 (s : Nat) : List (List am_I) := []
noncomputable def vc_F_rn_0_9 (s : Nat) : vm_C := (fun _ => vp_F_rn_0_9 s, fun pc => [], [], 1, vm_inst 8 1 (vt_F_rn_0_9 s) (vf_F_rn_0_9 s) (vd_F_rn_0_9 s))
noncomputable def ve_F_rn_0_9 (s : Nat) : List vm_E := [([.inr (.inr (some 70)), .inl (.ofNat 0, .ofNat 0), .inl (.ofNat 9, .ofNat 9)], (80, [(62, .inr (.inr (.inr (7, [.inr (.inr (some 71)), .inr (.inr (some 72)), .inl (.ofNat 2, .ofNat 5), .inl (.ofNat 2, .ofNat 5), .inl (.ofNat 0, .ofNat 5), .inr (.inr (some 73)), .inl (.ofNat 2, .ofNat 5), .inl (.ofNat 2, .ofNat 5), .inl (.ofNat 0, .ofNat 5), .inl am_top, .inl am_top, .inl am_top, .inr (.inr (some 74)), .inl (.ofNat 0, .ofNat 160), .inl (.ofNat (s + 0), .ofNat 160), .inl (.ofNat 0, .ofNat 160), .inl (.ofNat 0, .ofNat 3), .inl am_top, .inl (.ofNat 0, .ofNat 0), .inl am_top, .inr (.inr (some 75)), .inr (.inr (some 76)), .inr (.inr (some 77)), .inr (.inr (some 78)), .inr (.inr (some 79)), .inr (.inr (some 80)), .inr (.inr (some 81)), .inl (.negSucc 0, .ofNat 6), .inr (.inr (some 82)), .inr (.inr (some 83)), .inr (.inr (some 84)), .inr (.inr (some 85)), .inr (.inr (some 86)), .inl am_top, .inr (.inr (some 87))]))))]), 0, [0])]
noncomputable def q_F_rn_0_9 (s : Nat) : vm_Q := (160, [.inr (.inr (some 70)), .inl (.ofNat 0, .ofNat 0), .inl (.ofNat 9, .ofNat 9)], (80, [(62, .inr (.inr (.inr (7, [.inr (.inr (some 71)), .inr (.inr (some 72)), .inl (.ofNat 2, .ofNat 5), .inl (.ofNat 2, .ofNat 5), .inl (.ofNat 0, .ofNat 5), .inr (.inr (some 73)), .inl (.ofNat 2, .ofNat 5), .inl (.ofNat 2, .ofNat 5), .inl (.ofNat 0, .ofNat 5), .inl am_top, .inl am_top, .inl am_top, .inr (.inr (some 74)), .inl (.ofNat 0, .ofNat 160), .inl (.ofNat (s + 0), .ofNat 160), .inl (.ofNat 0, .ofNat 160), .inl (.ofNat 0, .ofNat 3), .inl am_top, .inl (.ofNat 0, .ofNat 0), .inl am_top, .inr (.inr (some 75)), .inr (.inr (some 76)), .inr (.inr (some 77)), .inr (.inr (some 78)), .inr (.inr (some 79)), .inr (.inr (some 80)), .inr (.inr (some 81)), .inl (.negSucc 0, .ofNat 6), .inr (.inr (some 82)), .inr (.inr (some 83)), .inr (.inr (some 84)), .inr (.inr (some 85)), .inr (.inr (some 86)), .inl am_top, .inr (.inr (some 87))]))))]), vp_F_rn_0_9 s)
theorem vx_F_rn_0_9_0 : vm_rng (fun s => vm_chk bt_160 [] (vk_F_rn_0_9 s) 11 (vc_F_rn_0_9 s) 0 1 && (vm_ents 160 11 (vc_F_rn_0_9 s) (ve_F_rn_0_9 s) && vm_kok (vk_F_rn_0_9 s))) 1 12 = true := by decide +kernel
theorem vx_F_rn_0_9_1 : vm_rng (fun s => vm_chk bt_160 [] (vk_F_rn_0_9 s) 11 (vc_F_rn_0_9 s) 0 1 && (vm_ents 160 11 (vc_F_rn_0_9 s) (ve_F_rn_0_9 s) && vm_kok (vk_F_rn_0_9 s))) 13 12 = true := by decide +kernel
theorem vx_F_rn_0_9_2 : vm_rng (fun s => vm_chk bt_160 [] (vk_F_rn_0_9 s) 11 (vc_F_rn_0_9 s) 0 1 && (vm_ents 160 11 (vc_F_rn_0_9 s) (ve_F_rn_0_9 s) && vm_kok (vk_F_rn_0_9 s))) 25 12 = true := by decide +kernel
theorem vx_F_rn_0_9_3 : vm_rng (fun s => vm_chk bt_160 [] (vk_F_rn_0_9 s) 11 (vc_F_rn_0_9 s) 0 1 && (vm_ents 160 11 (vc_F_rn_0_9 s) (ve_F_rn_0_9 s) && vm_kok (vk_F_rn_0_9 s))) 37 12 = true := by decide +kernel
theorem vx_F_rn_0_9_4 : vm_rng (fun s => vm_chk bt_160 [] (vk_F_rn_0_9 s) 11 (vc_F_rn_0_9 s) 0 1 && (vm_ents 160 11 (vc_F_rn_0_9 s) (ve_F_rn_0_9 s) && vm_kok (vk_F_rn_0_9 s))) 49 12 = true := by decide +kernel
theorem vx_F_rn_0_9_5 : vm_rng (fun s => vm_chk bt_160 [] (vk_F_rn_0_9 s) 11 (vc_F_rn_0_9 s) 0 1 && (vm_ents 160 11 (vc_F_rn_0_9 s) (ve_F_rn_0_9 s) && vm_kok (vk_F_rn_0_9 s))) 61 12 = true := by decide +kernel
theorem vx_F_rn_0_9_6 : vm_rng (fun s => vm_chk bt_160 [] (vk_F_rn_0_9 s) 11 (vc_F_rn_0_9 s) 0 1 && (vm_ents 160 11 (vc_F_rn_0_9 s) (ve_F_rn_0_9 s) && vm_kok (vk_F_rn_0_9 s))) 73 12 = true := by decide +kernel
theorem vx_F_rn_0_9_7 : vm_rng (fun s => vm_chk bt_160 [] (vk_F_rn_0_9 s) 11 (vc_F_rn_0_9 s) 0 1 && (vm_ents 160 11 (vc_F_rn_0_9 s) (ve_F_rn_0_9 s) && vm_kok (vk_F_rn_0_9 s))) 85 12 = true := by decide +kernel
theorem vx_F_rn_0_9_8 : vm_rng (fun s => vm_chk bt_160 [] (vk_F_rn_0_9 s) 11 (vc_F_rn_0_9 s) 0 1 && (vm_ents 160 11 (vc_F_rn_0_9 s) (ve_F_rn_0_9 s) && vm_kok (vk_F_rn_0_9 s))) 97 12 = true := by decide +kernel
theorem vx_F_rn_0_9_9 : vm_rng (fun s => vm_chk bt_160 [] (vk_F_rn_0_9 s) 11 (vc_F_rn_0_9 s) 0 1 && (vm_ents 160 11 (vc_F_rn_0_9 s) (ve_F_rn_0_9 s) && vm_kok (vk_F_rn_0_9 s))) 109 12 = true := by decide +kernel
theorem vx_F_rn_0_9_10 : vm_rng (fun s => vm_chk bt_160 [] (vk_F_rn_0_9 s) 11 (vc_F_rn_0_9 s) 0 1 && (vm_ents 160 11 (vc_F_rn_0_9 s) (ve_F_rn_0_9 s) && vm_kok (vk_F_rn_0_9 s))) 121 12 = true := by decide +kernel
theorem vx_F_rn_0_9_11 : vm_rng (fun s => vm_chk bt_160 [] (vk_F_rn_0_9 s) 11 (vc_F_rn_0_9 s) 0 1 && (vm_ents 160 11 (vc_F_rn_0_9 s) (ve_F_rn_0_9 s) && vm_kok (vk_F_rn_0_9 s))) 133 12 = true := by decide +kernel
theorem vx_F_rn_0_9_12 : vm_rng (fun s => vm_chk bt_160 [] (vk_F_rn_0_9 s) 11 (vc_F_rn_0_9 s) 0 1 && (vm_ents 160 11 (vc_F_rn_0_9 s) (ve_F_rn_0_9 s) && vm_kok (vk_F_rn_0_9 s))) 145 12 = true := by decide +kernel
theorem vx_F_rn_0_9_13 : vm_rng (fun s => vm_chk bt_160 [] (vk_F_rn_0_9 s) 11 (vc_F_rn_0_9 s) 0 1 && (vm_ents 160 11 (vc_F_rn_0_9 s) (ve_F_rn_0_9 s) && vm_kok (vk_F_rn_0_9 s))) 157 3 = true := by decide +kernel
set_option maxRecDepth 20000 in
theorem vz_F_rn_0_9 (s : Nat) (h1 : 1 ≤ s) (h2 : s < 160) : (vm_chk bt_160 [] (vk_F_rn_0_9 s) 11 (vc_F_rn_0_9 s) 0 1 && (vm_ents 160 11 (vc_F_rn_0_9 s) (ve_F_rn_0_9 s) && vm_kok (vk_F_rn_0_9 s))) = true := by
  by_cases g0 : s < 13
  · exact vm_rng_ok vx_F_rn_0_9_0 s (by omega) (by omega)
  by_cases g1 : s < 25
  · exact vm_rng_ok vx_F_rn_0_9_1 s (by omega) (by omega)
  by_cases g2 : s < 37
  · exact vm_rng_ok vx_F_rn_0_9_2 s (by omega) (by omega)
  by_cases g3 : s < 49
  · exact vm_rng_ok vx_F_rn_0_9_3 s (by omega) (by omega)
  by_cases g4 : s < 61
  · exact vm_rng_ok vx_F_rn_0_9_4 s (by omega) (by omega)
  by_cases g5 : s < 73
  · exact vm_rng_ok vx_F_rn_0_9_5 s (by omega) (by omega)
  by_cases g6 : s < 85
  · exact vm_rng_ok vx_F_rn_0_9_6 s (by omega) (by omega)
  by_cases g7 : s < 97
  · exact vm_rng_ok vx_F_rn_0_9_7 s (by omega) (by omega)
  by_cases g8 : s < 109
  · exact vm_rng_ok vx_F_rn_0_9_8 s (by omega) (by omega)
  by_cases g9 : s < 121
  · exact vm_rng_ok vx_F_rn_0_9_9 s (by omega) (by omega)
  by_cases g10 : s < 133
  · exact vm_rng_ok vx_F_rn_0_9_10 s (by omega) (by omega)
  by_cases g11 : s < 145
  · exact vm_rng_ok vx_F_rn_0_9_11 s (by omega) (by omega)
  by_cases g12 : s < 157
  · exact vm_rng_ok vx_F_rn_0_9_12 s (by omega) (by omega)
  exact vm_rng_ok vx_F_rn_0_9_13 s (by omega) (by omega)
theorem v_F_rn_0_9 (s : Nat) (h1 : 1 ≤ s) (h2 : s < 160) : vm_at 4 (q_F_rn_0_9 s) := by
  have h := vz_F_rn_0_9 s h1 h2
  rw [Bool.and_eq_true, Bool.and_eq_true] at h
  exact vm_ok (inl := []) (es := ve_F_rn_0_9 s) bq_160 (by decide) (vm_wts (L := 3) (vm_kc (vm_up (vj_898 (s + 0) (by omega)) rfl) (vm_kc (vm_up v_899 rfl) (vm_kc (vm_up v_867 rfl) vm_kn))) h.2.2) h.2.1 (fun i => vm_hc h.1 rfl (fun h => absurd h (Nat.not_lt_zero _))) _ List.mem_cons_self
noncomputable def vp_935 : List vm_R := [(some (.inl (.ofNat 0, .ofNat 4)), va_h168), (some (.inl (.ofNat 0, .ofNat 4)), va_h342)]
noncomputable def ve_935 : List vm_E := [([.inr (.inr (some 70)), .inl (.ofNat 0, .ofNat 0), .inl (.ofNat 4, .ofNat 4)], va_h340, 0, [0])]
noncomputable def q_935 : vm_Q := (160, [.inr (.inr (some 70)), .inl (.ofNat 0, .ofNat 0), .inl (.ofNat 4, .ofNat 4)], va_h340, vp_935)
noncomputable def vk_935 : List vm_U := [((qj_898 160), false, [(7, 62, 6), (7, 62, 7)]), (q_899, false, [(7, 62, 6), (7, 62, 7)]), (q_871, false, [(7, 62, 14), (7, 62, 17)])]
noncomputable def vf_935 : List ((Nat → am_I) → vm_A) := [fun v => (0, [(0, .inr (.inr (some 70))), (1, .inl (.ofNat 0, .ofNat 0)), (2, .inl (.ofNat 4, .ofNat 4))], [], (80, [(62, va_c225)]))]
noncomputable def vd_935_0_0 : List (List Nat) := [[0]]
noncomputable def vd_935_0 : List (List (List Nat)) := [vd_935_0_0]
noncomputable def vd_935 : List (List (List (List Nat))) := [vd_935_0]
noncomputable def vt_935 : List (List am_I) := []
noncomputable def vc_935 : vm_C := (fun _ => vp_935, fun pc => [], [], 1, vm_inst 8 1 vt_935 vf_935 vd_935)
theorem vx_935_0 : vm_chk bt_160 [] vk_935 11 vc_935 0 1 = true := by decide +kernel
theorem vy_935 : vm_ents 160 11 vc_935 ve_935 = true := by decide +kernel
theorem vw_935 : ∀ q ∈ vk_935, vm_wt 3 q := vm_wts (vm_kc (vm_up (vj_898 160 (by decide)) rfl) (vm_kc (vm_up v_899 rfl) (vm_kc (vm_up v_871 rfl) vm_kn))) (by decide +kernel)
theorem v_935 : vm_at 4 q_935 := vm_ok (inl := []) (es := ve_935) bq_160 (by decide) vw_935 vy_935 (fun i => vm_hc vx_935_0 rfl (fun h => absurd h (Nat.not_lt_zero _))) _ List.mem_cons_self
noncomputable def vp_3495 : List vm_R := [(some (.inl (.ofNat 0, .ofNat 4)), va_h168), (some (.inl (.ofNat 0, .ofNat 4)), va_h343), (some (.inl (.ofNat 0, .ofNat 4)), va_h344)]
noncomputable def ve_3495 : List vm_E := [([.inr (.inr (some 70)), .inl (.ofNat 0, .ofNat 0), .inl (.ofNat 4, .ofNat 4)], va_h167, 0, [0])]
noncomputable def q_3495 : vm_Q := (160, [.inr (.inr (some 70)), .inl (.ofNat 0, .ofNat 0), .inl (.ofNat 4, .ofNat 4)], va_h167, vp_3495)
noncomputable def vk_3495 : List vm_U := [((qj_898 0), false, [(7, 62, 6), (7, 62, 7)]), (q_899, false, [(7, 62, 6), (7, 62, 7)]), (q_871, false, [(7, 62, 17)])]
noncomputable def vf_3495 : List ((Nat → am_I) → vm_A) := [fun v => (0, [(0, .inr (.inr (some 70))), (1, .inl (.ofNat 0, .ofNat 0)), (2, .inl (.ofNat 4, .ofNat 4))], [], (80, [(62, va_c52)]))]
noncomputable def vd_3495_0_0 : List (List Nat) := [[0]]
noncomputable def vd_3495_0 : List (List (List Nat)) := [vd_3495_0_0]
noncomputable def vd_3495 : List (List (List (List Nat))) := [vd_3495_0]
noncomputable def vt_3495 : List (List am_I) := []
noncomputable def vc_3495 : vm_C := (fun _ => vp_3495, fun pc => [], [], 1, vm_inst 8 1 vt_3495 vf_3495 vd_3495)
theorem vx_3495_0 : vm_chk bt_160 [] vk_3495 11 vc_3495 0 1 = true := by decide +kernel
theorem vy_3495 : vm_ents 160 11 vc_3495 ve_3495 = true := by decide +kernel
theorem vw_3495 : ∀ q ∈ vk_3495, vm_wt 3 q := vm_wts (vm_kc (vm_up (vj_898 0 (by decide)) rfl) (vm_kc (vm_up v_899 rfl) (vm_kc (vm_up v_871 rfl) vm_kn))) (by decide +kernel)
theorem v_3495 : vm_at 4 q_3495 := vm_ok (inl := []) (es := ve_3495) bq_160 (by decide) vw_3495 vy_3495 (fun i => vm_hc vx_3495_0 rfl (fun h => absurd h (Nat.not_lt_zero _))) _ List.mem_cons_self
noncomputable def vp_F_rn_0_4 (s : Nat) : List vm_R := [(some (.inl (.ofNat 0, .ofNat 4)), (80, [(62, .inr (.inr (.inr (7, [.inr (.inr (some 71)), .inr (.inr (some 72)), .inl (.ofNat 2, .ofNat 5), .inl (.ofNat 2, .ofNat 5), .inl (.ofNat 0, .ofNat 5), .inr (.inr (some 73)), .inl (.ofNat 0, .ofNat 5), .inl (.ofNat 0, .ofNat 5), .inl (.ofNat 0, .ofNat 5), .inl am_top, .inl am_top, .inl am_top, .inr (.inr (some 74)), .inl (.ofNat 0, .ofNat 160), .inl (.ofNat 0, .ofNat 160), .inl (.ofNat 0, .ofNat 160), .inl (.ofNat 0, .ofNat 3), .inl am_top, .inl (.ofNat 1, .ofNat 6), .inl am_top, .inr (.inr (some 75)), .inr (.inr (some 76)), .inr (.inr (some 77)), .inr (.inr (some 78)), .inr (.inr (some 79)), .inr (.inr (some 80)), .inr (.inr (some 81)), .inl (.negSucc 0, .ofNat 6), .inr (.inr (some 82)), .inr (.inr (some 83)), .inr (.inr (some 84)), .inr (.inr (some 85)), .inr (.inr (some 86)), .inl am_top, .inr (.inr (some 87))]))))])), (some (.inl (.ofNat 0, .ofNat 4)), (80, [(62, .inr (.inr (.inr (7, [.inr (.inr (some 71)), .inr (.inr (some 72)), .inl (.ofNat 2, .ofNat 5), .inl (.ofNat 2, .ofNat 5), .inl (.ofNat 0, .ofNat 5), .inr (.inr (some 73)), .inl (.ofNat 2, .ofNat 5), .inl (.ofNat 2, .ofNat 5), .inl (.ofNat 0, .ofNat 5), .inl am_top, .inl am_top, .inl am_top, .inr (.inr (some 74)), .inl (.ofNat 0, .ofNat 160), .inl (.ofNat (s + 0), .ofNat 160), .inl (.ofNat 0, .ofNat 160), .inl (.ofNat 0, .ofNat 0), .inl am_top, .inl (.ofNat 0, .ofNat 0), .inl am_top, .inr (.inr (some 75)), .inr (.inr (some 76)), .inr (.inr (some 77)), .inr (.inr (some 78)), .inr (.inr (some 79)), .inr (.inr (some 80)), .inr (.inr (some 81)), .inl (.negSucc 0, .ofNat 6), .inr (.inr (some 82)), .inr (.inr (some 83)), .inr (.inr (some 84)), .inr (.inr (some 85)), .inr (.inr (some 86)), .inl am_top, .inr (.inr (some 87))]))))])), (some (.inl (.ofNat 0, .ofNat 4)), (80, [(62, .inr (.inr (.inr (7, [.inr (.inr (some 71)), .inr (.inr (some 72)), .inl (.ofNat 2, .ofNat 5), .inl (.ofNat 2, .ofNat 5), .inl (.ofNat 0, .ofNat 5), .inr (.inr (some 73)), .inl (.ofNat 2, .ofNat 5), .inl (.ofNat 2, .ofNat 5), .inl (.ofNat 0, .ofNat 5), .inl am_top, .inl am_top, .inl am_top, .inr (.inr (some 74)), .inl (.ofNat 0, .ofNat 160), .inl (.ofNat (s + 1), .ofNat 160), .inl (.ofNat 0, .ofNat 160), .inl (.ofNat 1, .ofNat 3), .inl am_top, .inl (.ofNat 0, .ofNat 0), .inl am_top, .inr (.inr (some 75)), .inr (.inr (some 76)), .inr (.inr (some 77)), .inr (.inr (some 78)), .inr (.inr (some 79)), .inr (.inr (some 80)), .inr (.inr (some 81)), .inl (.negSucc 0, .ofNat 6), .inr (.inr (some 82)), .inr (.inr (some 83)), .inr (.inr (some 84)), .inr (.inr (some 85)), .inr (.inr (some 86)), .inl am_top, .inr (.inr (some 87))]))))]))]
noncomputable def vk_F_rn_0_4 (s : Nat) : List vm_U := [((qj_898 (s + 0)), false, [(7, 62, 6), (7, 62, 7)]), (q_899, false, [(7, 62, 6), (7, 62, 7)]), (q_871, false, [(7, 62, 14), (7, 62, 17)])]
noncomputable def vf_F_rn_0_4 (s : Nat) : List ((Nat → am_I) → vm_A) := [fun v => (0, [(0, .inr (.inr (some 70))), (1, .inl (.ofNat 0, .ofNat 0)), (2, .inl (.ofNat 4, .ofNat 4))], [], (80, [(62, .inr (.inr (.inr (7, [.inr (.inr (some 71)), .inr (.inr (some 72)), .inl (.ofNat 2, .ofNat 5), .inl (.ofNat 2, .ofNat 5), .inl (.ofNat 0, .ofNat 5), .inr (.inr (some 73)), .inl (.ofNat 2, .ofNat 5), .inl (.ofNat 2, .ofNat 5), .inl (.ofNat 0, .ofNat 5), .inl am_top, .inl am_top, .inl am_top, .inr (.inr (some 74)), .inl (.ofNat 0, .ofNat 160), .inl (.ofNat (s + 0), .ofNat 160), .inl (.ofNat 0, .ofNat 160), .inl (.ofNat 0, .ofNat 3), .inl am_top, .inl (.ofNat 0, .ofNat 0), .inl am_top, .inr (.inr (some 75)), .inr (.inr (some 76)), .inr (.inr (some 77)), .inr (.inr (some 78)), .inr (.inr (some 79)), .inr (.inr (some 80)), .inr (.inr (some 81)), .inl (.negSucc 0, .ofNat 6), .inr (.inr (some 82)), .inr (.inr (some 83)), .inr (.inr (some 84)), .inr (.inr (some 85)), .inr (.inr (some 86)), .inl am_top, .inr (.inr (some 87))]))))]))]
noncomputable def vd_F_rn_0_4_0_0 (s : Nat) : List (List Nat) := [[0]]
noncomputable def vd_F_rn_0_4_0 (s : Nat) : List (List (List Nat)) := [vd_F_rn_0_4_0_0 s]
noncomputable def vd_F_rn_0_4 (s : Nat) : List (List (List (List Nat))) := [vd_F_rn_0_4_0 s]
noncomputable def vt_F_rn_0_4 (s : Nat) : List (List am_I) := []
noncomputable def vc_F_rn_0_4 (s : Nat) : vm_C := (fun _ => vp_F_rn_0_4 s, fun pc => [], [], 1, vm_inst 8 1 (vt_F_rn_0_4 s) (vf_F_rn_0_4 s) (vd_F_rn_0_4 s))
noncomputable def ve_F_rn_0_4 (s : Nat) : List vm_E := [([.inr (.inr (some 70)), .inl (.ofNat 0, .ofNat 0), .inl (.ofNat 4, .ofNat 4)], (80, [(62, .inr (.inr (.inr (7, [.inr (.inr (some 71)), .inr (.inr (some 72)), .inl (.ofNat 2, .ofNat 5), .inl (.ofNat 2, .ofNat 5), .inl (.ofNat 0, .ofNat 5), .inr (.inr (some 73)), .inl (.ofNat 2, .ofNat 5), .inl (.ofNat 2, .ofNat 5), .inl (.ofNat 0, .ofNat 5), .inl am_top, .inl am_top, .inl am_top, .inr (.inr (some 74)), .inl (.ofNat 0, .ofNat 160), .inl (.ofNat (s + 0), .ofNat 160), .inl (.ofNat 0, .ofNat 160), .inl (.ofNat 0, .ofNat 3), .inl am_top, .inl (.ofNat 0, .ofNat 0), .inl am_top, .inr (.inr (some 75)), .inr (.inr (some 76)), .inr (.inr (some 77)), .inr (.inr (some 78)), .inr (.inr (some 79)), .inr (.inr (some 80)), .inr (.inr (some 81)), .inl (.negSucc 0, .ofNat 6), .inr (.inr (some 82)), .inr (.inr (some 83)), .inr (.inr (some 84)), .inr (.inr (some 85)), .inr (.inr (some 86)), .inl am_top, .inr (.inr (some 87))]))))]), 0, [0])]
noncomputable def q_F_rn_0_4 (s : Nat) : vm_Q := (160, [.inr (.inr (some 70)), .inl (.ofNat 0, .ofNat 0), .inl (.ofNat 4, .ofNat 4)], (80, [(62, .inr (.inr (.inr (7, [.inr (.inr (some 71)), .inr (.inr (some 72)), .inl (.ofNat 2, .ofNat 5), .inl (.ofNat 2, .ofNat 5), .inl (.ofNat 0, .ofNat 5), .inr (.inr (some 73)), .inl (.ofNat 2, .ofNat 5), .inl (.ofNat 2, .ofNat 5), .inl (.ofNat 0, .ofNat 5), .inl am_top, .inl am_top, .inl am_top, .inr (.inr (some 74)), .inl (.ofNat 0, .ofNat 160), .inl (.ofNat (s + 0), .ofNat 160), .inl (.ofNat 0, .ofNat 160), .inl (.ofNat 0, .ofNat 3), .inl am_top, .inl (.ofNat 0, .ofNat 0), .inl am_top, .inr (.inr (some 75)), .inr (.inr (some 76)), .inr (.inr (some 77)), .inr (.inr (some 78)), .inr (.inr (some 79)), .inr (.inr (some 80)), .inr (.inr (some 81)), .inl (.negSucc 0, .ofNat 6), .inr (.inr (some 82)), .inr (.inr (some 83)), .inr (.inr (some 84)), .inr (.inr (some 85)), .inr (.inr (some 86)), .inl am_top, .inr (.inr (some 87))]))))]), vp_F_rn_0_4 s)
theorem vx_F_rn_0_4_0 : vm_rng (fun s => vm_chk bt_160 [] (vk_F_rn_0_4 s) 11 (vc_F_rn_0_4 s) 0 1 && (vm_ents 160 11 (vc_F_rn_0_4 s) (ve_F_rn_0_4 s) && vm_kok (vk_F_rn_0_4 s))) 1 12 = true := by decide +kernel
theorem vx_F_rn_0_4_1 : vm_rng (fun s => vm_chk bt_160 [] (vk_F_rn_0_4 s) 11 (vc_F_rn_0_4 s) 0 1 && (vm_ents 160 11 (vc_F_rn_0_4 s) (ve_F_rn_0_4 s) && vm_kok (vk_F_rn_0_4 s))) 13 12 = true := by decide +kernel
theorem vx_F_rn_0_4_2 : vm_rng (fun s => vm_chk bt_160 [] (vk_F_rn_0_4 s) 11 (vc_F_rn_0_4 s) 0 1 && (vm_ents 160 11 (vc_F_rn_0_4 s) (ve_F_rn_0_4 s) && vm_kok (vk_F_rn_0_4 s))) 25 12 = true := by decide +kernel
theorem vx_F_rn_0_4_3 : vm_rng (fun s => vm_chk bt_160 [] (vk_F_rn_0_4 s) 11 (vc_F_rn_0_4 s) 0 1 && (vm_ents 160 11 (vc_F_rn_0_4 s) (ve_F_rn_0_4 s) && vm_kok (vk_F_rn_0_4 s))) 37 12 = true := by decide +kernel
theorem vx_F_rn_0_4_4 : vm_rng (fun s => vm_chk bt_160 [] (vk_F_rn_0_4 s) 11 (vc_F_rn_0_4 s) 0 1 && (vm_ents 160 11 (vc_F_rn_0_4 s) (ve_F_rn_0_4 s) && vm_kok (vk_F_rn_0_4 s))) 49 12 = true := by decide +kernel
theorem vx_F_rn_0_4_5 : vm_rng (fun s => vm_chk bt_160 [] (vk_F_rn_0_4 s) 11 (vc_F_rn_0_4 s) 0 1 && (vm_ents 160 11 (vc_F_rn_0_4 s) (ve_F_rn_0_4 s) && vm_kok (vk_F_rn_0_4 s))) 61 12 = true := by decide +kernel
theorem vx_F_rn_0_4_6 : vm_rng (fun s => vm_chk bt_160 [] (vk_F_rn_0_4 s) 11 (vc_F_rn_0_4 s) 0 1 && (vm_ents 160 11 (vc_F_rn_0_4 s) (ve_F_rn_0_4 s) && vm_kok (vk_F_rn_0_4 s))) 73 12 = true := by decide +kernel
theorem vx_F_rn_0_4_7 : vm_rng (fun s => vm_chk bt_160 [] (vk_F_rn_0_4 s) 11 (vc_F_rn_0_4 s) 0 1 && (vm_ents 160 11 (vc_F_rn_0_4 s) (ve_F_rn_0_4 s) && vm_kok (vk_F_rn_0_4 s))) 85 12 = true := by decide +kernel
theorem vx_F_rn_0_4_8 : vm_rng (fun s => vm_chk bt_160 [] (vk_F_rn_0_4 s) 11 (vc_F_rn_0_4 s) 0 1 && (vm_ents 160 11 (vc_F_rn_0_4 s) (ve_F_rn_0_4 s) && vm_kok (vk_F_rn_0_4 s))) 97 12 = true := by decide +kernel
theorem vx_F_rn_0_4_9 : vm_rng (fun s => vm_chk bt_160 [] (vk_F_rn_0_4 s) 11 (vc_F_rn_0_4 s) 0 1 && (vm_ents 160 11 (vc_F_rn_0_4 s) (ve_F_rn_0_4 s) && vm_kok (vk_F_rn_0_4 s))) 109 12 = true := by decide +kernel
theorem vx_F_rn_0_4_10 : vm_rng (fun s => vm_chk bt_160 [] (vk_F_rn_0_4 s) 11 (vc_F_rn_0_4 s) 0 1 && (vm_ents 160 11 (vc_F_rn_0_4 s) (ve_F_rn_0_4 s) && vm_kok (vk_F_rn_0_4 s))) 121 12 = true := by decide +kernel
theorem vx_F_rn_0_4_11 : vm_rng (fun s => vm_chk bt_160 [] (vk_F_rn_0_4 s) 11 (vc_F_rn_0_4 s) 0 1 && (vm_ents 160 11 (vc_F_rn_0_4 s) (ve_F_rn_0_4 s) && vm_kok (vk_F_rn_0_4 s))) 133 12 = true := by decide +kernel
theorem vx_F_rn_0_4_12 : vm_rng (fun s => vm_chk bt_160 [] (vk_F_rn_0_4 s) 11 (vc_F_rn_0_4 s) 0 1 && (vm_ents 160 11 (vc_F_rn_0_4 s) (ve_F_rn_0_4 s) && vm_kok (vk_F_rn_0_4 s))) 145 12 = true := by decide +kernel
theorem vx_F_rn_0_4_13 : vm_rng (fun s => vm_chk bt_160 [] (vk_F_rn_0_4 s) 11 (vc_F_rn_0_4 s) 0 1 && (vm_ents 160 11 (vc_F_rn_0_4 s) (ve_F_rn_0_4 s) && vm_kok (vk_F_rn_0_4 s))) 157 3 = true := by decide +kernel
set_option maxRecDepth 20000 in
theorem vz_F_rn_0_4 (s : Nat) (h1 : 1 ≤ s) (h2 : s < 160) : (vm_chk bt_160 [] (vk_F_rn_0_4 s) 11 (vc_F_rn_0_4 s) 0 1 && (vm_ents 160 11 (vc_F_rn_0_4 s) (ve_F_rn_0_4 s) && vm_kok (vk_F_rn_0_4 s))) = true := by
  by_cases g0 : s < 13
  · exact vm_rng_ok vx_F_rn_0_4_0 s (by omega) (by omega)
  by_cases g1 : s < 25
  · exact vm_rng_ok vx_F_rn_0_4_1 s (by omega) (by omega)
  by_cases g2 : s < 37
  · exact vm_rng_ok vx_F_rn_0_4_2 s (by omega) (by omega)
  by_cases g3 : s < 49
  · exact vm_rng_ok vx_F_rn_0_4_3 s (by omega) (by omega)
  by_cases g4 : s < 61
  · exact vm_rng_ok vx_F_rn_0_4_4 s (by omega) (by omega)
  by_cases g5 : s < 73
  · exact vm_rng_ok vx_F_rn_0_4_5 s (by omega) (by omega)
  by_cases g6 : s < 85
  · exact vm_rng_ok vx_F_rn_0_4_6 s (by omega) (by omega)
  by_cases g7 : s < 97
  · exact vm_rng_ok vx_F_rn_0_4_7 s (by omega) (by omega)
  by_cases g8 : s < 109
  · exact vm_rng_ok vx_F_rn_0_4_8 s (by omega) (by omega)
  by_cases g9 : s < 121
  · exact vm_rng_ok vx_F_rn_0_4_9 s (by omega) (by omega)
  by_cases g10 : s < 133
  · exact vm_rng_ok vx_F_rn_0_4_10 s (by omega) (by omega)
  by_cases g11 : s < 145
  · exact vm_rng_ok vx_F_rn_0_4_11 s (by omega) (by omega)
  by_cases g12 : s < 157
  · exact vm_rng_ok vx_F_rn_0_4_12 s (by omega) (by omega)
  exact vm_rng_ok vx_F_rn_0_4_13 s (by omega) (by omega)
theorem v_F_rn_0_4 (s : Nat) (h1 : 1 ≤ s) (h2 : s < 160) : vm_at 4 (q_F_rn_0_4 s) := by
  have h := vz_F_rn_0_4 s h1 h2
  rw [Bool.and_eq_true, Bool.and_eq_true] at h
  exact vm_ok (inl := []) (es := ve_F_rn_0_4 s) bq_160 (by decide) (vm_wts (L := 3) (vm_kc (vm_up (vj_898 (s + 0) (by omega)) rfl) (vm_kc (vm_up v_899 rfl) (vm_kc (vm_up v_871 rfl) vm_kn))) h.2.2) h.2.1 (fun i => vm_hc h.1 rfl (fun h => absurd h (Nat.not_lt_zero _))) _ List.mem_cons_self
noncomputable def vp_936 : List vm_R := [(some (.inl (.ofNat 0, .ofNat 24)), va_h168), (some (.inl (.ofNat 0, .ofNat 24)), va_h342)]
noncomputable def ve_936 : List vm_E := [([.inr (.inr (some 70)), .inl (.ofNat 0, .ofNat 0), .inl (.ofNat 24, .ofNat 24)], va_h340, 0, [0])]
noncomputable def q_936 : vm_Q := (160, [.inr (.inr (some 70)), .inl (.ofNat 0, .ofNat 0), .inl (.ofNat 24, .ofNat 24)], va_h340, vp_936)
noncomputable def vk_936 : List vm_U := [((qj_898 160), false, [(7, 62, 6), (7, 62, 7)]), (q_899, false, [(7, 62, 6), (7, 62, 7)]), (q_875, false, [(7, 62, 14), (7, 62, 17)])]
noncomputable def vf_936 : List ((Nat → am_I) → vm_A) := [fun v => (0, [(0, .inr (.inr (some 70))), (1, .inl (.ofNat 0, .ofNat 0)), (2, .inl (.ofNat 24, .ofNat 24))], [], (80, [(62, va_c225)]))]
noncomputable def vd_936_0_0 : List (List Nat) := [[0]]
noncomputable def vd_936_0 : List (List (List Nat)) := [vd_936_0_0]
noncomputable def vd_936 : List (List (List (List Nat))) := [vd_936_0]
noncomputable def vt_936 : List (List am_I) := []
noncomputable def vc_936 : vm_C := (fun _ => vp_936, fun pc => [], [], 1, vm_inst 8 1 vt_936 vf_936 vd_936)
theorem vx_936_0 : vm_chk bt_160 [] vk_936 11 vc_936 0 1 = true := by decide +kernel
theorem vy_936 : vm_ents 160 11 vc_936 ve_936 = true := by decide +kernel
theorem vw_936 : ∀ q ∈ vk_936, vm_wt 3 q := vm_wts (vm_kc (vm_up (vj_898 160 (by decide)) rfl) (vm_kc (vm_up v_899 rfl) (vm_kc (vm_up v_875 rfl) vm_kn))) (by decide +kernel)
theorem v_936 : vm_at 4 q_936 := vm_ok (inl := []) (es := ve_936) bq_160 (by decide) vw_936 vy_936 (fun i => vm_hc vx_936_0 rfl (fun h => absurd h (Nat.not_lt_zero _))) _ List.mem_cons_self
noncomputable def vp_3496 : List vm_R := [(some (.inl (.ofNat 0, .ofNat 24)), va_h168), (some (.inl (.ofNat 0, .ofNat 24)), va_h343), (some (.inl (.ofNat 0, .ofNat 24)), va_h344)]
noncomputable def ve_3496 : List vm_E := [([.inr (.inr (some 70)), .inl (.ofNat 0, .ofNat 0), .inl (.ofNat 24, .ofNat 24)], va_h167, 0, [0])]
noncomputable def q_3496 : vm_Q := (160, [.inr (.inr (some 70)), .inl (.ofNat 0, .ofNat 0), .inl (.ofNat 24, .ofNat 24)], va_h167, vp_3496)
noncomputable def vk_3496 : List vm_U := [((qj_898 0), false, [(7, 62, 6), (7, 62, 7)]), (q_899, false, [(7, 62, 6), (7, 62, 7)]), (q_875, false, [(7, 62, 17)])]
noncomputable def vf_3496 : List ((Nat → am_I) → vm_A) := [fun v => (0, [(0, .inr (.inr (some 70))), (1, .inl (.ofNat 0, .ofNat 0)), (2, .inl (.ofNat 24, .ofNat 24))], [], (80, [(62, va_c52)]))]
noncomputable def vd_3496_0_0 : List (List Nat) := [[0]]
noncomputable def vd_3496_0 : List (List (List Nat)) := [vd_3496_0_0]
noncomputable def vd_3496 : List (List (List (List Nat))) := [vd_3496_0]
noncomputable def vt_3496 : List (List am_I) := []
noncomputable def vc_3496 : vm_C := (fun _ => vp_3496, fun pc => [], [], 1, vm_inst 8 1 vt_3496 vf_3496 vd_3496)
theorem vx_3496_0 : vm_chk bt_160 [] vk_3496 11 vc_3496 0 1 = true := by decide +kernel
theorem vy_3496 : vm_ents 160 11 vc_3496 ve_3496 = true := by decide +kernel
theorem vw_3496 : ∀ q ∈ vk_3496, vm_wt 3 q := vm_wts (vm_kc (vm_up (vj_898 0 (by decide)) rfl) (vm_kc (vm_up v_899 rfl) (vm_kc (vm_up v_875 rfl) vm_kn))) (by decide +kernel)
theorem v_3496 : vm_at 4 q_3496 := vm_ok (inl := []) (es := ve_3496) bq_160 (by decide) vw_3496 vy_3496 (fun i => vm_hc vx_3496_0 rfl (fun h => absurd h (Nat.not_lt_zero _))) _ List.mem_cons_self
noncomputable def vp_F_rn_0_24 (s : Nat) : List vm_R := [(some (.inl (.ofNat 0, .ofNat 24)), (80, [(62, .inr (.inr (.inr (7, [.inr (.inr (some 71)), .inr (.inr (some 72)), .inl (.ofNat 2, .ofNat 5), .inl (.ofNat 2, .ofNat 5), .inl (.ofNat 0, .ofNat 5), .inr (.inr (some 73)), .inl (.ofNat 0, .ofNat 5), .inl (.ofNat 0, .ofNat 5), .inl (.ofNat 0, .ofNat 5), .inl am_top, .inl am_top, .inl am_top, .inr (.inr (some 74)), .inl (.ofNat 0, .ofNat 160), .inl (.ofNat 0, .ofNat 160), .inl (.ofNat 0, .ofNat 160), .inl (.ofNat 0, .ofNat 3), .inl am_top, .inl (.ofNat 1, .ofNat 6), .inl am_top, .inr (.inr (some 75)), .inr (.inr (some 76)), .inr (.inr (some 77)), .inr (.inr (some 78)), .inr (.inr (some 79)), .inr (.inr (some 80)), .inr (.inr (some 81)), .inl (.negSucc 0, .ofNat 6), .inr (.inr (some 82)), .inr (.inr (some 83)), .inr (.inr (some 84)), .inr (.inr (some 85)), .inr (.inr (some 86)), .inl am_top, .inr (.inr (some 87))]))))])), (some (.inl (.ofNat 0, .ofNat 24)), (80, [(62, .inr (.inr (.inr (7, [.inr (.inr (some 71)), .inr (.inr (some 72)), .inl (.ofNat 2, .ofNat 5), .inl (.ofNat 2, .ofNat 5), .inl (.ofNat 0, .ofNat 5), .inr (.inr (some 73)), .inl (.ofNat 2, .ofNat 5), .inl (.ofNat 2, .ofNat 5), .inl (.ofNat 0, .ofNat 5), .inl am_top, .inl am_top, .inl am_top, .inr (.inr (some 74)), .inl (.ofNat 0, .ofNat 160), .inl (.ofNat (s + 0), .ofNat 160), .inl (.ofNat 0, .ofNat 160), .inl (.ofNat 0, .ofNat 0), .inl am_top, .inl (.ofNat 0, .ofNat 0), .inl am_top, .inr (.inr (some 75)), .inr (.inr (some 76)), .inr (.inr (some 77)), .inr (.inr (some 78)), .inr (.inr (some 79)), .inr (.inr (some 80)), .inr (.inr (some 81)), .inl (.negSucc 0, .ofNat 6), .inr (.inr (some 82)), .inr (.inr (some 83)), .inr (.inr (some 84)), .inr (.inr (some 85)), .inr (.inr (some 86)), .inl am_top, .inr (.inr (some 87))]))))])), (some (.inl (.ofNat 0, .ofNat 24)), (80, [(62, .inr (.inr (.inr (7, [.inr (.inr (some 71)), .inr (.inr (some 72)), .inl (.ofNat 2, .ofNat 5), .inl (.ofNat 2, .ofNat 5), .inl (.ofNat 0, .ofNat 5), .inr (.inr (some 73)), .inl (.ofNat 2, .ofNat 5), .inl (.ofNat 2, .ofNat 5), .inl (.ofNat 0, .ofNat 5), .inl am_top, .inl am_top, .inl am_top, .inr (.inr (some 74)), .inl (.ofNat 0, .ofNat 160), .inl (.ofNat (s + 1), .ofNat 160), .inl (.ofNat 0, .ofNat 160), .inl (.ofNat 1, .ofNat 3), .inl am_top, .inl (.ofNat 0, .ofNat 0), .inl am_top, .inr (.inr (some 75)), .inr (.inr (some 76)), .inr (.inr (some 77)), .inr (.inr (some 78)), .inr (.inr (some 79)), .inr (.inr (some 80)), .inr (.inr (some 81)), .inl (.negSucc 0, .ofNat 6), .inr (.inr (some 82)), .inr (.inr (some 83)), .inr (.inr (some 84)), .inr (.inr (some 85)), .inr (.inr (some 86)), .inl am_top, .inr (.inr (some 87))]))))]))]
noncomputable def vk_F_rn_0_24 (s : Nat) : List vm_U := [((qj_898 (s + 0)), false, [(7, 62, 6), (7, 62, 7)]), (q_899, false, [(7, 62, 6), (7, 62, 7)]), (q_875, false, [(7, 62, 14), (7, 62, 17)])]
noncomputable def vf_F_rn_0_24 (s : Nat) : List ((Nat → am_I) → vm_A) := [fun v => (0, [(0, .inr (.inr (some 70))), (1, .inl (.ofNat 0, .ofNat 0)), (2, .inl (.ofNat 24, .ofNat 24))], [], (80, [(62, .inr (.inr (.inr (7, [.inr (.inr (some 71)), .inr (.inr (some 72)), .inl (.ofNat 2, .ofNat 5), .inl (.ofNat 2, .ofNat 5), .inl (.ofNat 0, .ofNat 5), .inr (.inr (some 73)), .inl (.ofNat 2, .ofNat 5), .inl (.ofNat 2, .ofNat 5), .inl (.ofNat 0, .ofNat 5), .inl am_top, .inl am_top, .inl am_top, .inr (.inr (some 74)), .inl (.ofNat 0, .ofNat 160), .inl (.ofNat (s + 0), .ofNat 160), .inl (.ofNat 0, .ofNat 160), .inl (.ofNat 0, .ofNat 3), .inl am_top, .inl (.ofNat 0, .ofNat 0), .inl am_top, .inr (.inr (some 75)), .inr (.inr (some 76)), .inr (.inr (some 77)), .inr (.inr (some 78)), .inr (.inr (some 79)), .inr (.inr (some 80)), .inr (.inr (some 81)), .inl (.negSucc 0, .ofNat 6), .inr (.inr (some 82)), .inr (.inr (some 83)), .inr (.inr (some 84)), .inr (.inr (some 85)), .inr (.inr (some 86)), .inl am_top, .inr (.inr (some 87))]))))]))]
noncomputable def vd_F_rn_0_24_0_0 (s : Nat) : List (List Nat) := [[0]]
noncomputable def vd_F_rn_0_24_0 (s : Nat) : List (List (List Nat)) := [vd_F_rn_0_24_0_0 s]
noncomputable def vd_F_rn_0_24 (s : Nat) : List (List (List (List Nat))) := [vd_F_rn_0_24_0 s]
noncomputable def vt_F_rn_0_24 (s : Nat) : List (List am_I) := []
noncomputable def vc_F_rn_0_24 (s : Nat) : vm_C := (fun _ => vp_F_rn_0_24 s, fun pc => [], [], 1, vm_inst 8 1 (vt_F_rn_0_24 s) (vf_F_rn_0_24 s) (vd_F_rn_0_24 s))
noncomputable def ve_F_rn_0_24 (s : Nat) : List vm_E := [([.inr (.inr (some 70)), .inl (.ofNat 0, .ofNat 0), .inl (.ofNat 24, .ofNat 24)], (80, [(62, .inr (.inr (.inr (7, [.inr (.inr (some 71)), .inr (.inr (some 72)), .inl (.ofNat 2, .ofNat 5), .inl (.ofNat 2, .ofNat 5), .inl (.ofNat 0, .ofNat 5), .inr (.inr (some 73)), .inl (.ofNat 2, .ofNat 5), .inl (.ofNat 2, .ofNat 5), .inl (.ofNat 0, .ofNat 5), .inl am_top, .inl am_top, .inl am_top, .inr (.inr (some 74)), .inl (.ofNat 0, .ofNat 160), .inl (.ofNat (s + 0), .ofNat 160), .inl (.ofNat 0, .ofNat 160), .inl (.ofNat 0, .ofNat 3), .inl am_top, .inl (.ofNat 0, .ofNat 0), .inl am_top, .inr (.inr (some 75)), .inr (.inr (some 76)), .inr (.inr (some 77)), .inr (.inr (some 78)), .inr (.inr (some 79)), .inr (.inr (some 80)), .inr (.inr (some 81)), .inl (.negSucc 0, .ofNat 6), .inr (.inr (some 82)), .inr (.inr (some 83)), .inr (.inr (some 84)), .inr (.inr (some 85)), .inr (.inr (some 86)), .inl am_top, .inr (.inr (some 87))]))))]), 0, [0])]
noncomputable def q_F_rn_0_24 (s : Nat) : vm_Q := (160, [.inr (.inr (some 70)), .inl (.ofNat 0, .ofNat 0), .inl (.ofNat 24, .ofNat 24)], (80, [(62, .inr (.inr (.inr (7, [.inr (.inr (some 71)), .inr (.inr (some 72)), .inl (.ofNat 2, .ofNat 5), .inl (.ofNat 2, .ofNat 5), .inl (.ofNat 0, .ofNat 5), .inr (.inr (some 73)), .inl (.ofNat 2, .ofNat 5), .inl (.ofNat 2, .ofNat 5), .inl (.ofNat 0, .ofNat 5), .inl am_top, .inl am_top, .inl am_top, .inr (.inr (some 74)), .inl (.ofNat 0, .ofNat 160), .inl (.ofNat (s + 0), .ofNat 160), .inl (.ofNat 0, .ofNat 160), .inl (.ofNat 0, .ofNat 3), .inl am_top, .inl (.ofNat 0, .ofNat 0), .inl am_top, .inr (.inr (some 75)), .inr (.inr (some 76)), .inr (.inr (some 77)), .inr (.inr (some 78)), .inr (.inr (some 79)), .inr (.inr (some 80)), .inr (.inr (some 81)), .inl (.negSucc 0, .ofNat 6), .inr (.inr (some 82)), .inr (.inr (some 83)), .inr (.inr (some 84)), .inr (.inr (some 85)), .inr (.inr (some 86)), .inl am_top, .inr (.inr (some 87))]))))]), vp_F_rn_0_24 s)
theorem vx_F_rn_0_24_0 : vm_rng (fun s => vm_chk bt_160 [] (vk_F_rn_0_24 s) 11 (vc_F_rn_0_24 s) 0 1 && (vm_ents 160 11 (vc_F_rn_0_24 s) (ve_F_rn_0_24 s) && vm_kok (vk_F_rn_0_24 s))) 1 12 = true := by decide +kernel
theorem vx_F_rn_0_24_1 : vm_rng (fun s => vm_chk bt_160 [] (vk_F_rn_0_24 s) 11 (vc_F_rn_0_24 s) 0 1 && (vm_ents 160 11 (vc_F_rn_0_24 s) (ve_F_rn_0_24 s) && vm_kok (vk_F_rn_0_24 s))) 13 12 = true := by decide +kernel
theorem vx_F_rn_0_24_2 : vm_rng (fun s => vm_chk bt_160 [] (vk_F_rn_0_24 s) 11 (vc_F_rn_0_24 s) 0 1 && (vm_ents 160 11 (vc_F_rn_0_24 s) (ve_F_rn_0_24 s) && vm_kok (vk_F_rn_0_24 s))) 25 12 = true := by decide +kernel
theorem vx_F_rn_0_24_3 : vm_rng (fun s => vm_chk bt_160 [] (vk_F_rn_0_24 s) 11 (vc_F_rn_0_24 s) 0 1 && (vm_ents 160 11 (vc_F_rn_0_24 s) (ve_F_rn_0_24 s) && vm_kok (vk_F_rn_0_24 s))) 37 12 = true := by decide +kernel
theorem vx_F_rn_0_24_4 : vm_rng (fun s => vm_chk bt_160 [] (vk_F_rn_0_24 s) 11 (vc_F_rn_0_24 s) 0 1 && (vm_ents 160 11 (vc_F_rn_0_24 s) (ve_F_rn_0_24 s) && vm_kok (vk_F_rn_0_24 s))) 49 12 = true := by decide +kernel
theorem vx_F_rn_0_24_5 : vm_rng (fun s => vm_chk bt_160 [] (vk_F_rn_0_24 s) 11 (vc_F_rn_0_24 s) 0 1 && (vm_ents 160 11 (vc_F_rn_0_24 s) (ve_F_rn_0_24 s) && vm_kok (vk_F_rn_0_24 s))) 61 12 = true := by decide +kernel
theorem vx_F_rn_0_24_6 : vm_rng (fun s => vm_chk bt_160 [] (vk_F_rn_0_24 s) 11 (vc_F_rn_0_24 s) 0 1 && (vm_ents 160 11 (vc_F_rn_0_24 s) (ve_F_rn_0_24 s) && vm_kok (vk_F_rn_0_24 s))) 73 12 = true := by decide +kernel
theorem vx_F_rn_0_24_7 : vm_rng (fun s => vm_chk bt_160 [] (vk_F_rn_0_24 s) 11 (vc_F_rn_0_24 s) 0 1 && (vm_ents 160 11 (vc_F_rn_0_24 s) (ve_F_rn_0_24 s) && vm_kok (vk_F_rn_0_24 s))) 85 12 = true := by decide +kernel
theorem vx_F_rn_0_24_8 : vm_rng (fun s => vm_chk bt_160 [] (vk_F_rn_0_24 s) 11 (vc_F_rn_0_24 s) 0 1 && (vm_ents 160 11 (vc_F_rn_0_24 s) (ve_F_rn_0_24 s) && vm_kok (vk_F_rn_0_24 s))) 97 12 = true := by decide +kernel
theorem vx_F_rn_0_24_9 : vm_rng (fun s => vm_chk bt_160 [] (vk_F_rn_0_24 s) 11 (vc_F_rn_0_24 s) 0 1 && (vm_ents 160 11 (vc_F_rn_0_24 s) (ve_F_rn_0_24 s) && vm_kok (vk_F_rn_0_24 s))) 109 12 = true := by decide +kernel
theorem vx_F_rn_0_24_10 : vm_rng (fun s => vm_chk bt_160 [] (vk_F_rn_0_24 s) 11 (vc_F_rn_0_24 s) 0 1 && (vm_ents 160 11 (vc_F_rn_0_24 s) (ve_F_rn_0_24 s) && vm_kok (vk_F_rn_0_24 s))) 121 12 = true := by decide +kernel
theorem vx_F_rn_0_24_11 : vm_rng (fun s => vm_chk bt_160 [] (vk_F_rn_0_24 s) 11 (vc_F_rn_0_24 s) 0 1 && (vm_ents 160 11 (vc_F_rn_0_24 s) (ve_F_rn_0_24 s) && vm_kok (vk_F_rn_0_24 s))) 133 12 = true := by decide +kernel
theorem vx_F_rn_0_24_12 : vm_rng (fun s => vm_chk bt_160 [] (vk_F_rn_0_24 s) 11 (vc_F_rn_0_24 s) 0 1 && (vm_ents 160 11 (vc_F_rn_0_24 s) (ve_F_rn_0_24 s) && vm_kok (vk_F_rn_0_24 s))) 145 12 = true := by decide +kernel
theorem vx_F_rn_0_24_13 : vm_rng (fun s => vm_chk bt_160 [] (vk_F_rn_0_24 s) 11 (vc_F_rn_0_24 s) 0 1 && (vm_ents 160 11 (vc_F_rn_0_24 s) (ve_F_rn_0_24 s) && vm_kok (vk_F_rn_0_24 s))) 157 3 = true := by decide +kernel
set_option maxRecDepth 20000 in
theorem vz_F_rn_0_24 (s : Nat) (h1 : 1 ≤ s) (h2 : s < 160) : (vm_chk bt_160 [] (vk_F_rn_0_24 s) 11 (vc_F_rn_0_24 s) 0 1 && (vm_ents 160 11 (vc_F_rn_0_24 s) (ve_F_rn_0_24 s) && vm_kok (vk_F_rn_0_24 s))) = true := by
  by_cases g0 : s < 13
  · exact vm_rng_ok vx_F_rn_0_24_0 s (by omega) (by omega)
  by_cases g1 : s < 25
  · exact vm_rng_ok vx_F_rn_0_24_1 s (by omega) (by omega)
  by_cases g2 : s < 37
  · exact vm_rng_ok vx_F_rn_0_24_2 s (by omega) (by omega)
  by_cases g3 : s < 49
  · exact vm_rng_ok vx_F_rn_0_24_3 s (by omega) (by omega)
  by_cases g4 : s < 61
  · exact vm_rng_ok vx_F_rn_0_24_4 s (by omega) (by omega)
  by_cases g5 : s < 73
  · exact vm_rng_ok vx_F_rn_0_24_5 s (by omega) (by omega)
  by_cases g6 : s < 85
  · exact vm_rng_ok vx_F_rn_0_24_6 s (by omega) (by omega)
  by_cases g7 : s < 97
  · exact vm_rng_ok vx_F_rn_0_24_7 s (by omega) (by omega)
  by_cases g8 : s < 109
  · exact vm_rng_ok vx_F_rn_0_24_8 s (by omega) (by omega)
  by_cases g9 : s < 121
  · exact vm_rng_ok vx_F_rn_0_24_9 s (by omega) (by omega)
  by_cases g10 : s < 133
  · exact vm_rng_ok vx_F_rn_0_24_10 s (by omega) (by omega)
  by_cases g11 : s < 145
  · exact vm_rng_ok vx_F_rn_0_24_11 s (by omega) (by omega)
  by_cases g12 : s < 157
  · exact vm_rng_ok vx_F_rn_0_24_12 s (by omega) (by omega)
  exact vm_rng_ok vx_F_rn_0_24_13 s (by omega) (by omega)
theorem v_F_rn_0_24 (s : Nat) (h1 : 1 ≤ s) (h2 : s < 160) : vm_at 4 (q_F_rn_0_24 s) := by
  have h := vz_F_rn_0_24 s h1 h2
  rw [Bool.and_eq_true, Bool.and_eq_true] at h
  exact vm_ok (inl := []) (es := ve_F_rn_0_24 s) bq_160 (by decide) (vm_wts (L := 3) (vm_kc (vm_up (vj_898 (s + 0) (by omega)) rfl) (vm_kc (vm_up v_899 rfl) (vm_kc (vm_up v_875 rfl) vm_kn))) h.2.2) h.2.1 (fun i => vm_hc h.1 rfl (fun h => absurd h (Nat.not_lt_zero _))) _ List.mem_cons_self
noncomputable def vp_937 : List vm_R := [(some (.inl (.ofNat 0, .ofNat 3)), va_h168), (some (.inl (.ofNat 0, .ofNat 3)), va_h342)]
noncomputable def ve_937 : List vm_E := [([.inr (.inr (some 70)), .inl (.ofNat 0, .ofNat 0), .inl (.ofNat 3, .ofNat 3)], va_h340, 0, [0])]
noncomputable def q_937 : vm_Q := (160, [.inr (.inr (some 70)), .inl (.ofNat 0, .ofNat 0), .inl (.ofNat 3, .ofNat 3)], va_h340, vp_937)
noncomputable def vk_937 : List vm_U := [((qj_898 160), false, [(7, 62, 6), (7, 62, 7)]), (q_899, false, [(7, 62, 6), (7, 62, 7)]), (q_876, false, [(7, 62, 14), (7, 62, 17)])]
noncomputable def vf_937 : List ((Nat → am_I) → vm_A) := [fun v => (0, [(0, .inr (.inr (some 70))), (1, .inl (.ofNat 0, .ofNat 0)), (2, .inl (.ofNat 3, .ofNat 3))], [], (80, [(62, va_c225)]))]
noncomputable def vd_937_0_0 : List (List Nat) := [[0]]
noncomputable def vd_937_0 : List (List (List Nat)) := [vd_937_0_0]
noncomputable def vd_937 : List (List (List (List Nat))) := [vd_937_0]
noncomputable def vt_937 : List (List am_I) := []
noncomputable def vc_937 : vm_C := (fun _ => vp_937, fun pc => [], [], 1, vm_inst 8 1 vt_937 vf_937 vd_937)
theorem vx_937_0 : vm_chk bt_160 [] vk_937 11 vc_937 0 1 = true := by decide +kernel
theorem vy_937 : vm_ents 160 11 vc_937 ve_937 = true := by decide +kernel
theorem vw_937 : ∀ q ∈ vk_937, vm_wt 3 q := vm_wts (vm_kc (vm_up (vj_898 160 (by decide)) rfl) (vm_kc (vm_up v_899 rfl) (vm_kc (vm_up v_876 rfl) vm_kn))) (by decide +kernel)
theorem v_937 : vm_at 4 q_937 := vm_ok (inl := []) (es := ve_937) bq_160 (by decide) vw_937 vy_937 (fun i => vm_hc vx_937_0 rfl (fun h => absurd h (Nat.not_lt_zero _))) _ List.mem_cons_self
noncomputable def vp_3497 : List vm_R := [(some (.inl (.ofNat 0, .ofNat 3)), va_h168), (some (.inl (.ofNat 0, .ofNat 3)), va_h343), (some (.inl (.ofNat 0, .ofNat 3)), va_h344)]
noncomputable def ve_3497 : List vm_E := [([.inr (.inr (some 70)), .inl (.ofNat 0, .ofNat 0), .inl (.ofNat 3, .ofNat 3)], va_h167, 0, [0])]
noncomputable def q_3497 : vm_Q := (160, [.inr (.inr (some 70)), .inl (.ofNat 0, .ofNat 0), .inl (.ofNat 3, .ofNat 3)], va_h167, vp_3497)
noncomputable def vk_3497 : List vm_U := [((qj_898 0), false, [(7, 62, 6), (7, 62, 7)]), (q_899, false, [(7, 62, 6), (7, 62, 7)]), (q_876, false, [(7, 62, 17)])]
noncomputable def vf_3497 : List ((Nat → am_I) → vm_A) := [fun v => (0, [(0, .inr (.inr (some 70))), (1, .inl (.ofNat 0, .ofNat 0)), (2, .inl (.ofNat 3, .ofNat 3))], [], (80, [(62, va_c52)]))]
noncomputable def vd_3497_0_0 : List (List Nat) := [[0]]
noncomputable def vd_3497_0 : List (List (List Nat)) := [vd_3497_0_0]
noncomputable def vd_3497 : List (List (List (List Nat))) := [vd_3497_0]
noncomputable def vt_3497 : List (List am_I) := []
noncomputable def vc_3497 : vm_C := (fun _ => vp_3497, fun pc => [], [], 1, vm_inst 8 1 vt_3497 vf_3497 vd_3497)
theorem vx_3497_0 : vm_chk bt_160 [] vk_3497 11 vc_3497 0 1 = true := by decide +kernel
theorem vy_3497 : vm_ents 160 11 vc_3497 ve_3497 = true := by decide +kernel
theorem vw_3497 : ∀ q ∈ vk_3497, vm_wt 3 q := vm_wts (vm_kc (vm_up (vj_898 0 (by decide)) rfl) (vm_kc (vm_up v_899 rfl) (vm_kc (vm_up v_876 rfl) vm_kn))) (by decide +kernel)
theorem v_3497 : vm_at 4 q_3497 := vm_ok (inl := []) (es := ve_3497) bq_160 (by decide) vw_3497 vy_3497 (fun i => vm_hc vx_3497_0 rfl (fun h => absurd h (Nat.not_lt_zero _))) _ List.mem_cons_self
noncomputable def vp_F_rn_0_3 (s : Nat) : List vm_R := [(some (.inl (.ofNat 0, .ofNat 3)), (80, [(62, .inr (.inr (.inr (7, [.inr (.inr (some 71)), .inr (.inr (some 72)), .inl (.ofNat 2, .ofNat 5), .inl (.ofNat 2, .ofNat 5), .inl (.ofNat 0, .ofNat 5), .inr (.inr (some 73)), .inl (.ofNat 0, .ofNat 5), .inl (.ofNat 0, .ofNat 5), .inl (.ofNat 0, .ofNat 5), .inl am_top, .inl am_top, .inl am_top, .inr (.inr (some 74)), .inl (.ofNat 0, .ofNat 160), .inl (.ofNat 0, .ofNat 160), .inl (.ofNat 0, .ofNat 160), .inl (.ofNat 0, .ofNat 3), .inl am_top, .inl (.ofNat 1, .ofNat 6), .inl am_top, .inr (.inr (some 75)), .inr (.inr (some 76)), .inr (.inr (some 77)), .inr (.inr (some 78)), .inr (.inr (some 79)), .inr (.inr (some 80)), .inr (.inr (some 81)), .inl (.negSucc 0, .ofNat 6), .inr (.inr (some 82)), .inr (.inr (some 83)), .inr (.inr (some 84)), .inr (.inr (some 85)), .inr (.inr (some 86)), .inl am_top, .inr (.inr (some 87))]))))])), (some (.inl (.ofNat 0, .ofNat 3)), (80, [(62, .inr (.inr (.inr (7, [.inr (.inr (some 71)), .inr (.inr (some 72)), .inl (.ofNat 2, .ofNat 5), .inl (.ofNat 2, .ofNat 5), .inl (.ofNat 0, .ofNat 5), .inr (.inr (some 73)), .inl (.ofNat 2, .ofNat 5), .inl (.ofNat 2, .ofNat 5), .inl (.ofNat 0, .ofNat 5), .inl am_top, .inl am_top, .inl am_top, .inr (.inr (some 74)), .inl (.ofNat 0, .ofNat 160), .inl (.ofNat (s + 0), .ofNat 160), .inl (.ofNat 0, .ofNat 160), .inl (.ofNat 0, .ofNat 0), .inl am_top, .inl (.ofNat 0, .ofNat 0), .inl am_top, .inr (.inr (some 75)), .inr (.inr (some 76)), .inr (.inr (some 77)), .inr (.inr (some 78)), .inr (.inr (some 79)), .inr (.inr (some 80)), .inr (.inr (some 81)), .inl (.negSucc 0, .ofNat 6), .inr (.inr (some 82)), .inr (.inr (some 83)), .inr (.inr (some 84)), .inr (.inr (some 85)), .inr (.inr (some 86)), .inl am_top, .inr (.inr (some 87))]))))])), (some (.inl (.ofNat 0, .ofNat 3)), (80, [(62, .inr (.inr (.inr (7, [.inr (.inr (some 71)), .inr (.inr (some 72)), .inl (.ofNat 2, .ofNat 5), .inl (.ofNat 2, .ofNat 5), .inl (.ofNat 0, .ofNat 5), .inr (.inr (some 73)), .inl (.ofNat 2, .ofNat 5), .inl (.ofNat 2, .ofNat 5), .inl (.ofNat 0, .ofNat 5), .inl am_top, .inl am_top, .inl am_top, .inr (.inr (some 74)), .inl (.ofNat 0, .ofNat 160), .inl (.ofNat (s + 1), .ofNat 160), .inl (.ofNat 0, .ofNat 160), .inl (.ofNat 1, .ofNat 3), .inl am_top, .inl (.ofNat 0, .ofNat 0), .inl am_top, .inr (.inr (some 75)), .inr (.inr (some 76)), .inr (.inr (some 77)), .inr (.inr (some 78)), .inr (.inr (some 79)), .inr (.inr (some 80)), .inr (.inr (some 81)), .inl (.negSucc 0, .ofNat 6), .inr (.inr (some 82)), .inr (.inr (some 83)), .inr (.inr (some 84)), .inr (.inr (some 85)), .inr (.inr (some 86)), .inl am_top, .inr (.inr (some 87))]))))]))]
noncomputable def vk_F_rn_0_3 (s : Nat) : List vm_U := [((qj_898 (s + 0)), false, [(7, 62, 6), (7, 62, 7)]), (q_899, false, [(7, 62, 6), (7, 62, 7)]), (q_876, false, [(7, 62, 14), (7, 62, 17)])]
noncomputable def vf_F_rn_0_3 (s : Nat) : List ((Nat → am_I) → vm_A) := [fun v => (0, [(0, .inr (.inr (some 70))), (1, .inl (.ofNat 0, .ofNat 0)), (2, .inl (.ofNat 3, .ofNat 3))], [], (80, [(62, .inr (.inr (.inr (7, [.inr (.inr (some 71)), .inr (.inr (some 72)), .inl (.ofNat 2, .ofNat 5), .inl (.ofNat 2, .ofNat 5), .inl (.ofNat 0, .ofNat 5), .inr (.inr (some 73)), .inl (.ofNat 2, .ofNat 5), .inl (.ofNat 2, .ofNat 5), .inl (.ofNat 0, .ofNat 5), .inl am_top, .inl am_top, .inl am_top, .inr (.inr (some 74)), .inl (.ofNat 0, .ofNat 160), .inl (.ofNat (s + 0), .ofNat 160), .inl (.ofNat 0, .ofNat 160), .inl (.ofNat 0, .ofNat 3), .inl am_top, .inl (.ofNat 0, .ofNat 0), .inl am_top, .inr (.inr (some 75)), .inr (.inr (some 76)), .inr (.inr (some 77)), .inr (.inr (some 78)), .inr (.inr (some 79)), .inr (.inr (some 80)), .inr (.inr (some 81)), .inl (.negSucc 0, .ofNat 6), .inr (.inr (some 82)), .inr (.inr (some 83)), .inr (.inr (some 84)), .inr (.inr (some 85)), .inr (.inr (some 86)), .inl am_top, .inr (.inr (some 87))]))))]))]
noncomputable def vd_F_rn_0_3_0_0 (s : Nat) : List (List Nat) := [[0]]
noncomputable def vd_F_rn_0_3_0 (s : Nat) : List (List (List Nat)) := [vd_F_rn_0_3_0_0 s]
noncomputable def vd_F_rn_0_3 (s : Nat) : List (List (List (List Nat))) := [vd_F_rn_0_3_0 s]
noncomputable def vt_F_rn_0_3 (s : Nat) : List (List am_I) := []
noncomputable def vc_F_rn_0_3 (s : Nat) : vm_C := (fun _ => vp_F_rn_0_3 s, fun pc => [], [], 1, vm_inst 8 1 (vt_F_rn_0_3 s) (vf_F_rn_0_3 s) (vd_F_rn_0_3 s))
noncomputable def ve_F_rn_0_3 (s : Nat) : List vm_E := [([.inr (.inr (some 70)), .inl (.ofNat 0, .ofNat 0), .inl (.ofNat 3, .ofNat 3)], (80, [(62, .inr (.inr (.inr (7, [.inr (.inr (some 71)), .inr (.inr (some 72)), .inl (.ofNat 2, .ofNat 5), .inl (.ofNat 2, .ofNat 5), .inl (.ofNat 0, .ofNat 5), .inr (.inr (some 73)), .inl (.ofNat 2, .ofNat 5), .inl (.ofNat 2, .ofNat 5), .inl (.ofNat 0, .ofNat 5), .inl am_top, .inl am_top, .inl am_top, .inr (.inr (some 74)), .inl (.ofNat 0, .ofNat 160), .inl (.ofNat (s + 0), .ofNat 160), .inl (.ofNat 0, .ofNat 160), .inl (.ofNat 0, .ofNat 3), .inl am_top, .inl (.ofNat 0, .ofNat 0), .inl am_top, .inr (.inr (some 75)), .inr (.inr (some 76)), .inr (.inr (some 77)), .inr (.inr (some 78)), .inr (.inr (some 79)), .inr (.inr (some 80)), .inr (.inr (some 81)), .inl (.negSucc 0, .ofNat 6), .inr (.inr (some 82)), .inr (.inr (some 83)), .inr (.inr (some 84)), .inr (.inr (some 85)), .inr (.inr (some 86)), .inl am_top, .inr (.inr (some 87))]))))]), 0, [0])]
noncomputable def q_F_rn_0_3 (s : Nat) : vm_Q := (160, [.inr (.inr (some 70)), .inl (.ofNat 0, .ofNat 0), .inl (.ofNat 3, .ofNat 3)], (80, [(62, .inr (.inr (.inr (7, [.inr (.inr (some 71)), .inr (.inr (some 72)), .inl (.ofNat 2, .ofNat 5), .inl (.ofNat 2, .ofNat 5), .inl (.ofNat 0, .ofNat 5), .inr (.inr (some 73)), .inl (.ofNat 2, .ofNat 5), .inl (.ofNat 2, .ofNat 5), .inl (.ofNat 0, .ofNat 5), .inl am_top, .inl am_top, .inl am_top, .inr (.inr (some 74)), .inl (.ofNat 0, .ofNat 160), .inl (.ofNat (s + 0), .ofNat 160), .inl (.ofNat 0, .ofNat 160), .inl (.ofNat 0, .ofNat 3), .inl am_top, .inl (.ofNat 0, .ofNat 0), .inl am_top, .inr (.inr (some 75)), .inr (.inr (some 76)), .inr (.inr (some 77)), .inr (.inr (some 78)), .inr (.inr (some 79)), .inr (.inr (some 80)), .inr (.inr (some 81)), .inl (.negSucc 0, .ofNat 6), .inr (.inr (some 82)), .inr (.inr (some 83)), .inr (.inr (some 84)), .inr (.inr (some 85)), .inr (.inr (some 86)), .inl am_top, .inr (.inr (some 87))]))))]), vp_F_rn_0_3 s)
theorem vx_F_rn_0_3_0 : vm_rng (fun s => vm_chk bt_160 [] (vk_F_rn_0_3 s) 11 (vc_F_rn_0_3 s) 0 1 && (vm_ents 160 11 (vc_F_rn_0_3 s) (ve_F_rn_0_3 s) && vm_kok (vk_F_rn_0_3 s))) 1 12 = true := by decide +kernel
theorem vx_F_rn_0_3_1 : vm_rng (fun s => vm_chk bt_160 [] (vk_F_rn_0_3 s) 11 (vc_F_rn_0_3 s) 0 1 && (vm_ents 160 11 (vc_F_rn_0_3 s) (ve_F_rn_0_3 s) && vm_kok (vk_F_rn_0_3 s))) 13 12 = true := by decide +kernel
theorem vx_F_rn_0_3_2 : vm_rng (fun s => vm_chk bt_160 [] (vk_F_rn_0_3 s) 11 (vc_F_rn_0_3 s) 0 1 && (vm_ents 160 11 (vc_F_rn_0_3 s) (ve_F_rn_0_3 s) && vm_kok (vk_F_rn_0_3 s))) 25 12 = true := by decide +kernel
theorem vx_F_rn_0_3_3 : vm_rng (fun s => vm_chk bt_160 [] (vk_F_rn_0_3 s) 11 (vc_F_rn_0_3 s) 0 1 && (vm_ents 160 11 (vc_F_rn_0_3 s) (ve_F_rn_0_3 s) && vm_kok (vk_F_rn_0_3 s))) 37 12 = true := by decide +kernel
theorem vx_F_rn_0_3_4 : vm_rng (fun s => vm_chk bt_160 [] (vk_F_rn_0_3 s) 11 (vc_F_rn_0_3 s) 0 1 && (vm_ents 160 11 (vc_F_rn_0_3 s) (ve_F_rn_0_3 s) && vm_kok (vk_F_rn_0_3 s))) 49 12 = true := by decide +kernel
theorem vx_F_rn_0_3_5 : vm_rng (fun s => vm_chk bt_160 [] (vk_F_rn_0_3 s) 11 (vc_F_rn_0_3 s) 0 1 && (vm_ents 160 11 (vc_F_rn_0_3 s) (ve_F_rn_0_3 s) && vm_kok (vk_F_rn_0_3 s))) 61 12 = true := by decide +kernel
theorem vx_F_rn_0_3_6 : vm_rng (fun s => vm_chk bt_160 [] (vk_F_rn_0_3 s) 11 (vc_F_rn_0_3 s) 0 1 && (vm_ents 160 11 (vc_F_rn_0_3 s) (ve_F_rn_0_3 s) && vm_kok (vk_F_rn_0_3 s))) 73 12 = true := by decide +kernel
theorem vx_F_rn_0_3_7 : vm_rng (fun s => vm_chk bt_160 [] (vk_F_rn_0_3 s) 11 (vc_F_rn_0_3 s) 0 1 && (vm_ents 160 11 (vc_F_rn_0_3 s) (ve_F_rn_0_3 s) && vm_kok (vk_F_rn_0_3 s))) 85 12 = true := by decide +kernel
theorem vx_F_rn_0_3_8 : vm_rng (fun s => vm_chk bt_160 [] (vk_F_rn_0_3 s) 11 (vc_F_rn_0_3 s) 0 1 && (vm_ents 160 11 (vc_F_rn_0_3 s) (ve_F_rn_0_3 s) && vm_kok (vk_F_rn_0_3 s))) 97 12 = true := by decide +kernel
theorem vx_F_rn_0_3_9 : vm_rng (fun s => vm_chk bt_160 [] (vk_F_rn_0_3 s) 11 (vc_F_rn_0_3 s) 0 1 && (vm_ents 160 11 (vc_F_rn_0_3 s) (ve_F_rn_0_3 s) && vm_kok (vk_F_rn_0_3 s))) 109 12 = true := by decide +kernel
theorem vx_F_rn_0_3_10 : vm_rng (fun s => vm_chk bt_160 [] (vk_F_rn_0_3 s) 11 (vc_F_rn_0_3 s) 0 1 && (vm_ents 160 11 (vc_F_rn_0_3 s) (ve_F_rn_0_3 s) && vm_kok (vk_F_rn_0_3 s))) 121 12 = true := by decide +kernel
theorem vx_F_rn_0_3_11 : vm_rng (fun s => vm_chk bt_160 [] (vk_F_rn_0_3 s) 11 (vc_F_rn_0_3 s) 0 1 && (vm_ents 160 11 (vc_F_rn_0_3 s) (ve_F_rn_0_3 s) && vm_kok (vk_F_rn_0_3 s))) 133 12 = true := by decide +kernel
theorem vx_F_rn_0_3_12 : vm_rng (fun s => vm_chk bt_160 [] (vk_F_rn_0_3 s) 11 (vc_F_rn_0_3 s) 0 1 && (vm_ents 160 11 (vc_F_rn_0_3 s) (ve_F_rn_0_3 s) && vm_kok (vk_F_rn_0_3 s))) 145 12 = true := by decide +kernel
theorem vx_F_rn_0_3_13 : vm_rng (fun s => vm_chk bt_160 [] (vk_F_rn_0_3 s) 11 (vc_F_rn_0_3 s) 0 1 && (vm_ents 160 11 (vc_F_rn_0_3 s) (ve_F_rn_0_3 s) && vm_kok (vk_F_rn_0_3 s))) 157 3 = true := by decide +kernel
set_option maxRecDepth 20000 in
theorem vz_F_rn_0_3 (s : Nat) (h1 : 1 ≤ s) (h2 : s < 160) : (vm_chk bt_160 [] (vk_F_rn_0_3 s) 11 (vc_F_rn_0_3 s) 0 1 && (vm_ents 160 11 (vc_F_rn_0_3 s) (ve_F_rn_0_3 s) && vm_kok (vk_F_rn_0_3 s))) = true := by
  by_cases g0 : s < 13
  · exact vm_rng_ok vx_F_rn_0_3_0 s (by omega) (by omega)
  by_cases g1 : s < 25
  · exact vm_rng_ok vx_F_rn_0_3_1 s (by omega) (by omega)
  by_cases g2 : s < 37
  · exact vm_rng_ok vx_F_rn_0_3_2 s (by omega) (by omega)
  by_cases g3 : s < 49
  · exact vm_rng_ok vx_F_rn_0_3_3 s (by omega) (by omega)
  by_cases g4 : s < 61
  · exact vm_rng_ok vx_F_rn_0_3_4 s (by omega) (by omega)
  by_cases g5 : s < 73
  · exact vm_rng_ok vx_F_rn_0_3_5 s (by omega) (by omega)
  by_cases g6 : s < 85
  · exact vm_rng_ok vx_F_rn_0_3_6 s (by omega) (by omega)
  by_cases g7 : s < 97
  · exact vm_rng_ok vx_F_rn_0_3_7 s (by omega) (by omega)
  by_cases g8 : s < 109
  · exact vm_rng_ok vx_F_rn_0_3_8 s (by omega) (by omega)
  by_cases g9 : s < 121
  · exact vm_rng_ok vx_F_rn_0_3_9 s (by omega) (by omega)
  by_cases g10 : s < 133
  · exact vm_rng_ok vx_F_rn_0_3_10 s (by omega) (by omega)
  by_cases g11 : s < 145
  · exact vm_rng_ok vx_F_rn_0_3_11 s (by omega) (by omega)
  by_cases g12 : s < 157
  · exact vm_rng_ok vx_F_rn_0_3_12 s (by omega) (by omega)
  exact vm_rng_ok vx_F_rn_0_3_13 s (by omega) (by omega)
theorem v_F_rn_0_3 (s : Nat) (h1 : 1 ≤ s) (h2 : s < 160) : vm_at 4 (q_F_rn_0_3 s) := by
  have h := vz_F_rn_0_3 s h1 h2
  rw [Bool.and_eq_true, Bool.and_eq_true] at h
  exact vm_ok (inl := []) (es := ve_F_rn_0_3 s) bq_160 (by decide) (vm_wts (L := 3) (vm_kc (vm_up (vj_898 (s + 0) (by omega)) rfl) (vm_kc (vm_up v_899 rfl) (vm_kc (vm_up v_876 rfl) vm_kn))) h.2.2) h.2.1 (fun i => vm_hc h.1 rfl (fun h => absurd h (Nat.not_lt_zero _))) _ List.mem_cons_self
noncomputable def va_c230 : am_C := .inr (.inr (.inr (7, [.inr (.inr (some 71)), .inr (.inr (some 72)), .inl (.ofNat 2, .ofNat 5), .inl (.ofNat 2, .ofNat 5), .inl (.ofNat 0, .ofNat 5), .inr (.inr (some 73)), .inl (.ofNat 0, .ofNat 5), .inl (.ofNat 0, .ofNat 5), .inl (.ofNat 0, .ofNat 5), .inl am_top, .inl am_top, .inl am_top, .inr (.inr (some 74)), .inl (.ofNat 0, .ofNat 160), .inl (.ofNat 160, .ofNat 160), .inl (.ofNat 0, .ofNat 160), .inl (.ofNat 0, .ofNat 3), .inl am_top, .inl (.ofNat 2, .ofNat 3), .inl am_top, .inr (.inr (some 75)), .inr (.inr (some 76)), .inr (.inr (some 77)), .inr (.inr (some 78)), .inr (.inr (some 79)), .inr (.inr (some 80)), .inr (.inr (some 81)), .inl (.negSucc 0, .ofNat 6), .inr (.inr (some 82)), .inr (.inr (some 83)), .inr (.inr (some 84)), .inr (.inr (some 85)), .inr (.inr (some 86)), .inl am_top, .inr (.inr (some 87))])))
noncomputable def vp_938 : List vm_R := [(some (.inl (.ofNat 0, .ofNat 24)), va_h342), (some (.inl (.ofNat 0, .ofNat 24)), va_h168)]
noncomputable def ve_938 : List vm_E := [([.inr (.inr (some 70))], va_h340, 0, [0])]
noncomputable def q_938 : vm_Q := (162, [.inr (.inr (some 70))], va_h340, vp_938)
noncomputable def vk_938 : List vm_U := [((qj_898 160), false, [(7, 62, 6), (7, 62, 7)]), (q_899, false, []), (q_846, false, [(7, 62, 14)]), (q_875, false, [(7, 62, 14), (7, 62, 17)])]
noncomputable def vf_938 : List ((Nat → am_I) → vm_A) := [fun v => (0, [(0, .inr (.inr (some 70)))], [], (80, [(62, va_c225)])), fun v => (37, [(0, .inr (.inr (some 70))), (1, .inl (.ofNat 0, .ofNat 24)), (2, .inl (.ofNat 0, .ofNat 1)), (3, .inl (v 0))], [], (80, [(62, va_c225)])), fun v => (73, [(0, .inr (.inr (some 70))), (1, .inl (.ofNat 0, .ofNat 24)), (2, .inl (.ofNat 0, .ofNat 1)), (3, .inl am_top)], [], (80, [(62, va_c225)])), fun v => (79, [(0, .inr (.inr (some 70))), (1, .inl (.ofNat 0, .ofNat 24)), (2, .inl am_top), (3, .inl am_top)], [], (80, [(62, .inr (.inr (.inr (7, [.inr (.inr (some 71)), .inr (.inr (some 72)), .inl (.ofNat 2, .ofNat 5), .inl (.ofNat 2, .ofNat 5), .inl (.ofNat 0, .ofNat 5), .inr (.inr (some 73)), .inl (v 0), .inl (v 1), .inl (.ofNat 0, .ofNat 5), .inl am_top, .inl am_top, .inl am_top, .inr (.inr (some 74)), .inl (.ofNat 0, .ofNat 160), .inl (.ofNat 160, .ofNat 160), .inl (.ofNat 0, .ofNat 160), .inl (.ofNat 0, .ofNat 3), .inl am_top, .inl (v 2), .inl am_top, .inr (.inr (some 75)), .inr (.inr (some 76)), .inr (.inr (some 77)), .inr (.inr (some 78)), .inr (.inr (some 79)), .inr (.inr (some 80)), .inr (.inr (some 81)), .inl (.negSucc 0, .ofNat 6), .inr (.inr (some 82)), .inr (.inr (some 83)), .inr (.inr (some 84)), .inr (.inr (some 85)), .inr (.inr (some 86)), .inl am_top, .inr (.inr (some 87))]))))])), fun v => (106, [(0, .inr (.inr (some 70))), (1, .inl (.ofNat 0, .ofNat 24)), (2, .inl am_top), (3, .inl am_top)], [], (80, [(62, .inr (.inr (.inr (7, [.inr (.inr (some 71)), .inr (.inr (some 72)), .inl (.ofNat 2, .ofNat 5), .inl (.ofNat 2, .ofNat 5), .inl (.ofNat 0, .ofNat 5), .inr (.inr (some 73)), .inl (v 0), .inl (v 1), .inl (.ofNat 0, .ofNat 5), .inl am_top, .inl am_top, .inl am_top, .inr (.inr (some 74)), .inl (.ofNat 0, .ofNat 160), .inl (.ofNat 160, .ofNat 160), .inl (.ofNat 0, .ofNat 160), .inl (.ofNat 0, .ofNat 3), .inl am_top, .inl (v 2), .inl am_top, .inr (.inr (some 75)), .inr (.inr (some 76)), .inr (.inr (some 77)), .inr (.inr (some 78)), .inr (.inr (some 79)), .inr (.inr (some 80)), .inr (.inr (some 81)), .inl (.negSucc 0, .ofNat 6), .inr (.inr (some 82)), .inr (.inr (some 83)), .inr (.inr (some 84)), .inr (.inr (some 85)), .inr (.inr (some 86)), .inl am_top, .inr (.inr (some 87))]))))])), fun v => (79, [(0, .inr (.inr (some 70))), (1, .inl (.ofNat 0, .ofNat 0))], [], (80, [(62, va_c230)])), fun v => (106, [(0, .inr (.inr (some 70))), (1, .inl (.ofNat 0, .ofNat 0))], [], (80, [(62, va_c230)]))]
noncomputable def vd_938_0_0 : List (List Nat) := [[47244771328, 21474967553, 1116691628033, 2211908288513, 3307124948993, 4402341609473, 21474902017, 8590065666], [13245679206403, 51740934148, 1140249392644099, 4454099189764, 65541, 6]]
noncomputable def vd_938_0 : List (List (List Nat)) := [vd_938_0_0]
noncomputable def vd_938 : List (List (List (List Nat))) := [vd_938_0]
noncomputable def vt_938 : List (List am_I) := [[(.ofNat 2, .ofNat 5), (.ofNat 0, .ofNat 5)]]
noncomputable def vc_938 : vm_C := (fun _ => vp_938, fun pc => [], [37, 73, 79, 106], 14, vm_inst 8 12 vt_938 vf_938 vd_938)
theorem vx_938_0 : vm_chk bt_162 [] vk_938 25 vc_938 0 9 = true := by decide +kernel
theorem vx_938_1 : vm_chk bt_162 [] vk_938 25 vc_938 9 5 = true := by decide +kernel
theorem vy_938 : vm_ents 162 25 vc_938 ve_938 = true := by decide +kernel
theorem vw_938 : ∀ q ∈ vk_938, vm_wt 3 q := vm_wts (vm_kc (vm_up (vj_898 160 (by decide)) rfl) (vm_kc (vm_up v_899 rfl) (vm_kc (vm_up v_846 rfl) (vm_kc (vm_up v_875 rfl) vm_kn)))) (by decide +kernel)
theorem v_938 : vm_at 4 q_938 := vm_ok (inl := []) (es := ve_938) bq_162 (by decide) vw_938 vy_938 (fun i => vm_hc vx_938_1 rfl (vm_hc vx_938_0 rfl (fun h => absurd h (Nat.not_lt_zero _)))) _ List.mem_cons_self
noncomputable def va_c231 : am_C := .inr (.inr (.inr (7, [.inr (.inr (some 71)), .inr (.inr (some 72)), .inl (.ofNat 2, .ofNat 5), .inl (.ofNat 2, .ofNat 5), .inl (.ofNat 0, .ofNat 5), .inr (.inr (some 73)), .inl (.ofNat 0, .ofNat 5), .inl (.ofNat 0, .ofNat 5), .inl (.ofNat 0, .ofNat 5), .inl am_top, .inl am_top, .inl am_top, .inr (.inr (some 74)), .inl (.ofNat 0, .ofNat 160), .inl (.ofNat 0, .ofNat 160), .inl (.ofNat 0, .ofNat 160), .inl (.ofNat 0, .ofNat 3), .inl am_top, .inl (.ofNat 2, .ofNat 3), .inl am_top, .inr (.inr (some 75)), .inr (.inr (some 76)), .inr (.inr (some 77)), .inr (.inr (some 78)), .inr (.inr (some 79)), .inr (.inr (some 80)), .inr (.inr (some 81)), .inl (.negSucc 0, .ofNat 6), .inr (.inr (some 82)), .inr (.inr (some 83)), .inr (.inr (some 84)), .inr (.inr (some 85)), .inr (.inr (some 86)), .inl am_top, .inr (.inr (some 87))])))
noncomputable def vp_3498 : List vm_R := [(some (.inl (.ofNat 0, .ofNat 24)), va_h343), (some (.inl (.ofNat 0, .ofNat 24)), va_h168), (some (.inl (.ofNat 0, .ofNat 24)), va_h344)]
noncomputable def ve_3498 : List vm_E := [([.inr (.inr (some 70))], va_h167, 0, [0])]
noncomputable def q_3498 : vm_Q := (162, [.inr (.inr (some 70))], va_h167, vp_3498)
noncomputable def vk_3498 : List vm_U := [((qj_898 0), false, [(7, 62, 6), (7, 62, 7)]), (q_899, false, []), (q_846, false, []), (q_875, false, [(7, 62, 17)])]
noncomputable def vf_3498 : List ((Nat → am_I) → vm_A) := [fun v => (0, [(0, .inr (.inr (some 70)))], [], (80, [(62, va_c52)])), fun v => (37, [(0, .inr (.inr (some 70))), (1, .inl (.ofNat 0, .ofNat 24)), (2, .inl (.ofNat 0, .ofNat 1)), (3, .inl (v 0))], [], (80, [(62, va_c52)])), fun v => (73, [(0, .inr (.inr (some 70))), (1, .inl (.ofNat 0, .ofNat 24)), (2, .inl (.ofNat 0, .ofNat 1)), (3, .inl am_top)], [], (80, [(62, va_c52)])), fun v => (79, [(0, .inr (.inr (some 70))), (1, .inl (.ofNat 0, .ofNat 24)), (2, .inl am_top), (3, .inl am_top)], [], (80, [(62, .inr (.inr (.inr (7, [.inr (.inr (some 71)), .inr (.inr (some 72)), .inl (.ofNat 2, .ofNat 5), .inl (.ofNat 2, .ofNat 5), .inl (.ofNat 0, .ofNat 5), .inr (.inr (some 73)), .inl (v 0), .inl (v 1), .inl (.ofNat 0, .ofNat 5), .inl am_top, .inl am_top, .inl am_top, .inr (.inr (some 74)), .inl (.ofNat 0, .ofNat 160), .inl (.ofNat 0, .ofNat 160), .inl (.ofNat 0, .ofNat 160), .inl (.ofNat 0, .ofNat 3), .inl am_top, .inl (v 2), .inl am_top, .inr (.inr (some 75)), .inr (.inr (some 76)), .inr (.inr (some 77)), .inr (.inr (some 78)), .inr (.inr (some 79)), .inr (.inr (some 80)), .inr (.inr (some 81)), .inl (.negSucc 0, .ofNat 6), .inr (.inr (some 82)), .inr (.inr (some 83)), .inr (.inr (some 84)), .inr (.inr (some 85)), .inr (.inr (some 86)), .inl am_top, .inr (.inr (some 87))]))))])), fun v => (106, [(0, .inr (.inr (some 70))), (1, .inl (.ofNat 0, .ofNat 24)), (2, .inl am_top), (3, .inl am_top)], [], (80, [(62, .inr (.inr (.inr (7, [.inr (.inr (some 71)), .inr (.inr (some 72)), .inl (.ofNat 2, .ofNat 5), .inl (.ofNat 2, .ofNat 5), .inl (.ofNat 0, .ofNat 5), .inr (.inr (some 73)), .inl (v 0), .inl (v 1), .inl (.ofNat 0, .ofNat 5), .inl am_top, .inl am_top, .inl am_top, .inr (.inr (some 74)), .inl (.ofNat 0, .ofNat 160), .inl (.ofNat 0, .ofNat 160), .inl (.ofNat 0, .ofNat 160), .inl (.ofNat 0, .ofNat 3), .inl am_top, .inl (v 2), .inl am_top, .inr (.inr (some 75)), .inr (.inr (some 76)), .inr (.inr (some 77)), .inr (.inr (some 78)), .inr (.inr (some 79)), .inr (.inr (some 80)), .inr (.inr (some 81)), .inl (.negSucc 0, .ofNat 6), .inr (.inr (some 82)), .inr (.inr (some 83)), .inr (.inr (some 84)), .inr (.inr (some 85)), .inr (.inr (some 86)), .inl am_top, .inr (.inr (some 87))]))))])), fun v => (79, [(0, .inr (.inr (some 70))), (1, .inl (.ofNat 0, .ofNat 0))], [], (80, [(62, va_c231)])), fun v => (106, [(0, .inr (.inr (some 70))), (1, .inl (.ofNat 0, .ofNat 0))], [], (80, [(62, va_c231)]))]
noncomputable def vd_3498_0_0 : List (List Nat) := [[47244771328, 21474967553, 1116691628033, 2211908288513, 3307124948993, 4402341609473, 21474902017, 8590065666], [13245679206403, 51740934148, 1140249392644099, 4454099189764, 65541, 6]]
noncomputable def vd_3498_0 : List (List (List Nat)) := [vd_3498_0_0]
noncomputable def vd_3498 : List (List (List (List Nat))) := [vd_3498_0]
noncomputable def vt_3498 : List (List am_I) := [[(.ofNat 2, .ofNat 5), (.ofNat 0, .ofNat 5)]]
noncomputable def vc_3498 : vm_C := (fun _ => vp_3498, fun pc => [], [37, 73, 79, 106], 14, vm_inst 8 12 vt_3498 vf_3498 vd_3498)
theorem vx_3498_0 : vm_chk bt_162 [] vk_3498 25 vc_3498 0 9 = true := by decide +kernel
theorem vx_3498_1 : vm_chk bt_162 [] vk_3498 25 vc_3498 9 5 = true := by decide +kernel
theorem vy_3498 : vm_ents 162 25 vc_3498 ve_3498 = true := by decide +kernel
theorem vw_3498 : ∀ q ∈ vk_3498, vm_wt 3 q := vm_wts (vm_kc (vm_up (vj_898 0 (by decide)) rfl) (vm_kc (vm_up v_899 rfl) (vm_kc (vm_up v_846 rfl) (vm_kc (vm_up v_875 rfl) vm_kn)))) (by decide +kernel)
theorem v_3498 : vm_at 4 q_3498 := vm_ok (inl := []) (es := ve_3498) bq_162 (by decide) vw_3498 vy_3498 (fun i => vm_hc vx_3498_1 rfl (vm_hc vx_3498_0 rfl (fun h => absurd h (Nat.not_lt_zero _)))) _ List.mem_cons_self
