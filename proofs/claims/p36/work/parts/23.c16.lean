noncomputable def va_c253 : am_C := .inr (.inr (.inr (7, [.inr (.inr (some 71)), .inr (.inr (some 72)), .inl (.ofNat 2, .ofNat 5), .inl (.ofNat 2, .ofNat 5), .inl (.ofNat 0, .ofNat 5), .inr (.inr (some 73)), .inl (.ofNat 3, .ofNat 3), .inl (.ofNat 3, .ofNat 3), .inl (.ofNat 0, .ofNat 0), .inl (.ofNat 0, .ofNat 0), .inl (.negSucc 3, .negSucc 3), .inl (.negSucc 3, .negSucc 3), .inr (.inr (some 74)), .inl (.ofNat 0, .ofNat 160), .inl (.ofNat 0, .ofNat 160), .inl (.ofNat 0, .ofNat 160), .inl (.ofNat 0, .ofNat 3), .inl am_top, .inl (.ofNat 0, .ofNat 6), .inl am_top, .inr (.inr (some 75)), .inr (.inr (some 76)), .inr (.inr (some 77)), .inr (.inr (some 78)), .inr (.inr (some 79)), .inr (.inr (some 80)), .inr (.inr (some 81)), .inl (.negSucc 0, .ofNat 6), .inr (.inr (some 82)), .inr (.inr (some 83)), .inr (.inr (some 84)), .inr (.inr (some 85)), .inr (.inr (some 86)), .inl am_top, .inr (.inr (some 87))])))
noncomputable def va_h366 : am_H := (80, [(62, va_c253)])
noncomputable def vp_3509 : List vm_R := [(none, va_h366)]
noncomputable def ve_3509 : List vm_E := [([.inr (.inr (some 70))], va_h0, 0, [0])]
noncomputable def q_3509 : vm_Q := (146, [.inr (.inr (some 70))], va_h0, vp_3509)
noncomputable def vk_3509 : List vm_U := []
noncomputable def vf_3509 : List ((Nat → am_I) → vm_A) := [fun v => (0, [(0, .inr (.inr (some 70)))], [], (80, [])), fun v => (2, [(0, .inr (.inr (some 70))), (1, .inl (v 0))], [], (80, [])), fun v => (45, [(0, .inr (.inr (some 70))), (1, .inl (v 0))], [], (80, []))]
noncomputable def vd_3509_0_0 : List (List Nat) := [[65536, 65537, 4295032833, 8590000129, 12884967425, 17179934721, 21474902017, 25769869313], [30064836609, 34359803905, 38654771201, 42949738497, 47244705793, 51539673089, 55834640385, 60129607681], [64424574977, 68719542273, 73014509569, 77309476865, 81604444161, 85899411457, 90194378753, 94489346049], [98784313345, 103079280641, 107374247937, 111669215233, 115964182529, 120259149825, 124554117121, 128849084417], [133144051713, 137439019009, 141733986305, 146028953601, 150323920897, 154618888193, 158913855489, 163208822785], [167503790081, 171798757377, 176093724673, 180388691969, 184683659265, 188978626561, 65538, 4295032834], [8590000130, 12884967426, 67108866]]
noncomputable def vd_3509_0 : List (List (List Nat)) := [vd_3509_0_0]
noncomputable def vd_3509 : List (List (List (List Nat))) := [vd_3509_0]
noncomputable def vt_3509 : List (List am_I) := []
noncomputable def vc_3509 : vm_C := (fun _ => vp_3509, fun pc => [], [2, 45], 51, vm_inst 8 45 vt_3509 vf_3509 vd_3509)
theorem vx_3509_0 : vm_chk bt_146 [] vk_3509 24 vc_3509 0 11 = true := by decide +kernel
theorem vx_3509_1 : vm_chk bt_146 [] vk_3509 24 vc_3509 11 11 = true := by decide +kernel
theorem vx_3509_2 : vm_chk bt_146 [] vk_3509 24 vc_3509 22 10 = true := by decide +kernel
theorem vx_3509_3 : vm_chk bt_146 [] vk_3509 24 vc_3509 32 10 = true := by decide +kernel
theorem vx_3509_4 : vm_chk bt_146 [] vk_3509 24 vc_3509 42 9 = true := by decide +kernel
theorem vy_3509 : vm_ents 146 24 vc_3509 ve_3509 = true := by decide +kernel
theorem vw_3509 : ∀ q ∈ vk_3509, vm_wt 1 q := vm_wts vm_kn (by decide +kernel)
theorem v_3509 : vm_at 2 q_3509 := vm_ok (inl := []) (es := ve_3509) bq_146 (by decide) vw_3509 vy_3509 (fun i => vm_hc vx_3509_4 rfl (vm_hc vx_3509_3 rfl (vm_hc vx_3509_2 rfl (vm_hc vx_3509_1 rfl (vm_hc vx_3509_0 rfl (fun h => absurd h (Nat.not_lt_zero _))))))) _ List.mem_cons_self
noncomputable def va_c254 : am_C := .inr (.inr (.inr (7, [.inr (.inr (some 71)), .inr (.inr (some 72)), .inl (.ofNat 2, .ofNat 5), .inl (.ofNat 2, .ofNat 5), .inl (.ofNat 0, .ofNat 5), .inr (.inr (some 73)), .inl (.ofNat 2, .ofNat 5), .inl (.ofNat 2, .ofNat 5), .inl (.ofNat 0, .ofNat 5), .inl am_top, .inl am_top, .inl am_top, .inr (.inr (some 74)), .inl (.ofNat 0, .ofNat 160), .inl (.ofNat 0, .ofNat 160), .inl (.ofNat 0, .ofNat 160), .inl (.ofNat 0, .ofNat 3), .inl am_top, .inl (.ofNat 0, .ofNat 6), .inl am_top, .inr (.inr (some 75)), .inr (.inr (some 76)), .inr (.inr (some 77)), .inr (.inr (some 78)), .inr (.inr (some 79)), .inr (.inr (some 80)), .inr (.inr (some 81)), .inl (.negSucc 0, .ofNat 6), .inr (.inr (some 82)), .inr (.inr (some 83)), .inr (.inr (some 84)), .inr (.inr (some 85)), .inr (.inr (some 86)), .inl am_top, .inr (.inr (some 87))])))
noncomputable def vp_3510 : List vm_R := [(none, va_h0)]
noncomputable def ve_3510 : List vm_E := [([.inr (.inr (some 70))], va_h167, 0, [0])]
noncomputable def q_3510 : vm_Q := (147, [.inr (.inr (some 70))], va_h167, vp_3510)
noncomputable def vk_3510 : List vm_U := []
noncomputable def vf_3510 : List ((Nat → am_I) → vm_A) := [fun v => (0, [(0, .inr (.inr (some 70)))], [], (80, [(62, va_c52)])), fun v => (2, [(0, .inr (.inr (some 70))), (1, .inl (v 0))], [], (80, [(62, va_c254)]))]
noncomputable def vd_3510_0_0 : List (List Nat) := [[65536, 65537, 4295032833, 8590000129, 12884967425, 17179934721, 21474902017, 25769869313], [30064836609, 34359803905, 38654771201, 42949738497, 47244705793, 51539673089, 55834640385, 60129607681], [64424574977, 68719542273, 73014509569, 77309476865, 81604444161, 85899411457, 90194378753, 94489346049], [98784313345, 103079280641, 107374247937, 111669215233, 115964182529, 120259149825, 124554117121, 128849084417], [133144051713, 137439019009, 141733986305, 146028953601, 150323920897, 154618888193, 158913855489, 163208822785], [167503790081, 171798757377, 176093724673, 180388691969, 184683659265, 738197505]]
noncomputable def vd_3510_0 : List (List (List Nat)) := [vd_3510_0_0]
noncomputable def vd_3510 : List (List (List (List Nat))) := [vd_3510_0]
noncomputable def vt_3510 : List (List am_I) := []
noncomputable def vc_3510 : vm_C := (fun _ => vp_3510, fun pc => [], [2], 46, vm_inst 8 45 vt_3510 vf_3510 vd_3510)
theorem vx_3510_0 : vm_chk bt_147 [] vk_3510 28 vc_3510 0 13 = true := by decide +kernel
theorem vx_3510_1 : vm_chk bt_147 [] vk_3510 28 vc_3510 13 12 = true := by decide +kernel
theorem vx_3510_2 : vm_chk bt_147 [] vk_3510 28 vc_3510 25 12 = true := by decide +kernel
theorem vx_3510_3 : vm_chk bt_147 [] vk_3510 28 vc_3510 37 9 = true := by decide +kernel
theorem vy_3510 : vm_ents 147 28 vc_3510 ve_3510 = true := by decide +kernel
theorem vw_3510 : ∀ q ∈ vk_3510, vm_wt 1 q := vm_wts vm_kn (by decide +kernel)
theorem v_3510 : vm_at 2 q_3510 := vm_ok (inl := []) (es := ve_3510) bq_147 (by decide) vw_3510 vy_3510 (fun i => vm_hc vx_3510_3 rfl (vm_hc vx_3510_2 rfl (vm_hc vx_3510_1 rfl (vm_hc vx_3510_0 rfl (fun h => absurd h (Nat.not_lt_zero _)))))) _ List.mem_cons_self
noncomputable def vp_3511 : List vm_R := [(some (.inl am_top), va_h0)]
noncomputable def ve_3511 : List vm_E := [([.inr (.inr (some 70))], va_h0, 0, [0])]
noncomputable def q_3511 : vm_Q := (151, [.inr (.inr (some 70))], va_h0, vp_3511)
noncomputable def vk_3511 : List vm_U := [(q_3509, false, [(7, 62, 14), (7, 62, 18)]), (q_3510, false, [(7, 62, 6), (7, 62, 7), (7, 62, 13), (7, 62, 14), (7, 62, 16), (7, 62, 18)]), ((qj_898 0), false, [(7, 62, 6), (7, 62, 7)]), (q_854, false, [(7, 62, 14), (7, 62, 16)]), (q_856, false, [(7, 62, 14), (7, 62, 16)]), (q_964, false, []), (q_996, false, []), (q_1028, false, []), ((q_F_readLine 153), false, []), ((q_F_readLine 151), false, []), ((q_F_readLine 149), false, []), ((q_F_readLine 147), false, []), ((q_F_readLine 145), false, []), ((q_F_readLine 143), false, []), ((q_F_readLine 141), false, []), ((q_F_readLine 139), false, []), ((q_F_readLine 137), false, []), ((q_F_readLine 135), false, []), ((q_F_readLine 133), false, []), ((q_F_readLine 131), false, []), ((q_F_readLine 129), false, []), ((q_F_readLine 127), false, []), ((q_F_readLine 125), false, []), ((q_F_readLine 123), false, []), ((q_F_readLine 121), false, []), ((q_F_readLine 119), false, []), ((q_F_readLine 117), false, []), ((q_F_readLine 115), false, []), ((q_F_readLine 113), false, []), ((q_F_readLine 111), false, []), ((q_F_readLine 109), false, []), ((q_F_readLine 107), false, []), ((q_F_readLine 105), false, []), ((q_F_readLine 103), false, []), ((q_F_readLine 101), false, []), ((q_F_readLine 99), false, []), ((q_F_readLine 97), false, []), ((q_F_readLine 95), false, []), ((q_F_readLine 93), false, []), ((q_F_readLine 91), false, []), ((q_F_readLine 89), false, []), ((q_F_readLine 87), false, []), ((q_F_readLine 85), false, []), ((q_F_readLine 83), false, []), ((q_F_readLine 81), false, []), ((q_F_readLine 79), false, []), ((q_F_readLine 77), false, []), ((q_F_readLine 75), false, []), ((q_F_readLine 73), false, []), ((q_F_readLine 71), false, []), ((q_F_readLine 69), false, []), ((q_F_readLine 67), false, []), ((q_F_readLine 65), false, []), ((q_F_readLine 63), false, []), ((q_F_readLine 61), false, []), ((q_F_readLine 59), false, []), ((q_F_readLine 57), false, []), ((q_F_readLine 55), false, []), ((q_F_readLine 53), false, []), ((q_F_readLine 51), false, []), ((q_F_readLine 49), false, []), ((q_F_readLine 47), false, []), ((q_F_readLine 45), false, []), ((q_F_readLine 43), false, []), ((q_F_readLine 41), false, []), ((q_F_readLine 39), false, []), ((q_F_readLine 37), false, []), ((q_F_readLine 35), false, []), ((q_F_readLine 33), false, []), ((q_F_readLine 31), false, []), ((q_F_readLine 29), false, []), ((q_F_readLine 27), false, []), ((q_F_readLine 25), false, []), ((q_F_readLine 23), false, []), ((q_F_readLine 21), false, []), ((q_F_readLine 19), false, []), ((q_F_readLine 17), false, []), ((q_F_readLine 15), false, []), ((q_F_readLine 13), false, []), ((q_F_readLine 11), false, []), ((q_F_readLine 9), false, []), ((q_F_readLine 7), false, []), ((q_F_readLine 5), false, []), ((q_F_readLine 3), false, []), ((q_F_readLine 1), false, [])]
noncomputable def vf_3511 : List ((Nat → am_I) → vm_A) := [fun v => (0, [(0, .inr (.inr (some 70)))], [], (80, [])), fun v => (17, [(0, .inr (.inr (some 70))), (1, .inl (.ofNat 0, .ofNat 0))], [.inr (.inr (some 70))], (80, [(62, va_c65)])), fun v => (20, [(0, .inr (.inr (some 70))), (1, .inl (v 0))], [], (80, [(62, .inr (.inr (.inr (7, [.inr (.inr (some 71)), .inr (.inr (some 72)), .inl (.ofNat 2, .ofNat 5), .inl (.ofNat 2, .ofNat 5), .inl (.ofNat 0, .ofNat 5), .inr (.inr (some 73)), .inl (v 1), .inl (v 2), .inl (.ofNat 0, .ofNat 5), .inl am_top, .inl am_top, .inl am_top, .inr (.inr (some 74)), .inl (.ofNat 0, .ofNat 160), .inl (v 3), .inl (.ofNat 0, .ofNat 160), .inl (v 4), .inl am_top, .inl (v 5), .inl am_top, .inr (.inr (some 75)), .inr (.inr (some 76)), .inr (.inr (some 77)), .inr (.inr (some 78)), .inr (.inr (some 79)), .inr (.inr (some 80)), .inr (.inr (some 81)), .inl (.negSucc 0, .ofNat 6), .inr (.inr (some 82)), .inr (.inr (some 83)), .inr (.inr (some 84)), .inr (.inr (some 85)), .inr (.inr (some 86)), .inl am_top, .inr (.inr (some 87))]))))]))]
noncomputable def vd_3511_0_0 : List (List Nat) := [[4294967296, 291355549745703334281478145, 356611818672173144313829653673099584752323246686210, 19411192380507221797991234928642, 356611885574408739905778302815991208191113784459266, 19569648705535750754653299539970, 356611930175899136967103810423164558981542816251906, 19728105030564279711315364151298], [356611974777389534028429318030337909771971848044546, 19886561355592808667977428762626, 356612019378879931089754825637511260562400879837186, 20045017680621337624639493373954, 356612063980370328151080333244684611352829911629826, 20203474005649866581301557985282, 356612108581860725212405840851857962143258943422466, 20361930330678395537963622596610], [356612153183351122273731348459031312933687975215106, 20520386655706924494625687207938, 356612197784841519335056856066204663724117007007746, 20678842980735453451287751819266, 356612242386331916396382363673378014514546038800386, 20837299305763982407949816430594, 356612286987822313457707871280551365304975070593026, 20995755630792511364611881041922], [356612331589312710519033378887724716095404102385666, 21154211955821040321273945653250, 356612376190803107580358886494898066885833134178306, 21312668280849569277936010264578, 356612420792293504641684394102071417676262165970946, 21471124605878098234598074875906, 356612465393783901703009901709244768466691197763586, 21629580930906627191260139487234], [356612509995274298764335409316418119257120229556226, 21788037255935156147922204098562, 356612554596764695825660916923591470047549261348866, 21946493580963685104584268709890, 356612599198255092886986424530764820837978293141506, 22104949905992214061246333321218, 356612643799745489948311932137938171628407324934146, 22263406231020743017908397932546], [356612688401235887009637439745111522418836356726786, 22421862556049271974570462543874, 356612733002726284070962947352284873209265388519426, 22580318881077800931232527155202, 356612777604216681132288454959458223999694420312066, 22738775206106329887894591766530, 356612822205707078193613962566631574790123452104706, 22897231531134858844556656377858], [356612866807197475254939470173804925580552483897346, 23055687856163387801218720989186, 356612911408687872316264977780978276370981515689986, 23214144181191916757880785600514, 356612956010178269377590485388151627161410547482626, 23372600506220445714542850211842, 356613000611668666438915992995324977951839579275266, 23531056831248974671204914823170], [356613045213159063500241500602498328742268611067906, 23689513156277503627866979434498, 356613089814649460561567008209671679532697642860546, 23847969481306032584529044045826, 356613134416139857622892515816845030323126674653186, 24006425806334561541191108657154, 356613179017630254684218023424018381113555706445826, 24164882131363090497853173268482]]
noncomputable def vd_3511_0_1 : List (List Nat) := [[356613223619120651745543531031191731903984738238466, 24323338456391619454515237879810, 356613268220611048806869038638365082694413770031106, 24481794781420148411177302491138, 356613312822101445868194546245538433484842801823746, 24640251106448677367839367102466, 356613357423591842929520053852711784275271833616386, 24798707431477206324501431713794], [356613402025082239990845561459885135065700865409026, 24957163756505735281163496325122, 356613446626572637052171069067058485856129897201666, 25115620081534264237825560936450, 356613491228063034113496576674231836646558928994306, 25274076406562793194487625547778, 356613535829553431174822084281405187436987960786946, 25432532731591322151149690159106], [356613580431043828236147591888578538227416992579586, 25590989056619851107811754770434, 356613625032534225297473099495751889017846024372226, 25749445381648380064473819381762, 356613669634024622358798607102925239808275056164866, 25907901706676909021135883993090, 356613714235515019420124114710098590598704087957506, 26066358031705437977797948604418], [356613758837005416481449622317271941389133119750146, 26224814356733966934460013215746, 356613803438495813542775129924445292179562151542786, 26383270681762495891122077827074, 356613848039986210604100637531618642969991183335426, 26541727006791024847784142438402, 356613892641476607665426145138791993760420215128066, 26700183331819553804446207049730], [356613937242967004726751652745965344550849246920706, 26858639656848082761108271661058, 356613981844457401788077160353138695341278278713346, 27017095981876611717770336272386, 356614026445947798849402667960312046131707310505986, 27175552306905140674432400883714, 356614071047438195910728175567485396922136342298626, 27334008631933669631094465495042], [356614115648928592972053683174658747712565374091266, 27492464956962198587756530106370, 356614160250418990033379190781832098502994405883906, 27650921281990727544418594717698, 356614204851909387094704698389005449293423437676546, 27809377607019256501080659329026, 356614249453399784156030205996178800083852469469186, 27967833932047785457742723940354], [356614294054890181217355713603352150874281501261826, 28126290257076314414404788551682, 356614338656380578278681221210525501664710533054466, 28284746582104843371066853163010, 356614383257870975340006728817698852455139564847106, 28443202907133372327728917774338, 356614427859361372401332236424872203245568596639746, 28601659232161901284390982385666], [356614472460851769462657744032045554035997628432386, 28760115557190430241053046996994, 356614517062342166523983251639218904826426660225026, 28918571882218959197715111608322, 356614561663832563585308759246392255616855692017666, 29077028207247488154377176219650, 356614606265322960646634266853565606407284723810306, 29235484532276017111039240830978]]
noncomputable def vd_3511_0_2 : List (List Nat) := [[356614650866813357707959774460738957197713755602946, 29393940857304546067701305442306, 356614695468303754769285282067912307988142787395586, 29552397182333075024363370053634, 356614740069794151830610789675085658778571819188226, 29710853507361603981025434664962, 356614784671284548891936297282259009569000850980866, 29869309832390132937687499276290], [356614829272774945953261804889432360359429882773506, 30027766157418661894349563887618, 356614873874265343014587312496605711149858914566146, 30186222482447190851011628498946, 356614918475755740075912820103779061940287946358786, 30344678807475719807673693110274, 356614963077246137137238327710952412730716978151426, 30503135132504248764335757721602], [356615007678736534198563835318125763521146009944066, 30661591457532777720997822332930, 356615052280226931259889342925299114311575041736706, 30820047782561306677659886944258, 356615096881717328321214850532472465102004073529346, 30978504107589835634321951555586, 356615141483207725382540358139645815892433105321986, 31136960432618364590984016166914], [356615186084698122443865865746819166682862137114626, 31295416757646893547646080778242, 356615230686188519505191373353992517473291168907266, 31453873082675422504308145389570, 356615275287678916566516880961165868263720200699906, 31612329407703951460970210000898, 356615319889169313627842388568339219054149232492546, 31770785732732480417632274612226], [5441518623209529276873289431388765314688745474, 12676798566794775339063159291906, 138156743882137387631621802931363476668418, 138156743882137387631621802649888499957762, 138156743882137387631621802368413523247106, 138156743882137387631621802086938546536450, 138156743882137387631621801805463569825794, 138156743882137387631621801523988593115138], [138156743882137387631621801242513616404482, 138156743882137387631621800961038639693826, 138156743882137387631621800679563662983170, 138156743882137387631621800398088686272514, 138156743882137387631621800116613709561858, 138156743882137387631621799835138732851202, 138156743882137387631621799553663756140546, 138156743882137387631621799272188779429890], [138156743882137387631621798990713802719234, 138156743882137387631621798709238826008578, 138156743882137387631621798427763849297922, 138156743882137387631621798146288872587266, 138156743882137387631621797864813895876610, 138156743882137387631621797583338919165954, 138156743882137387631621797301863942455298, 138156743882137387631621797020388965744642], [138156743882137387631621796738913989033986, 138156743882137387631621796457439012323330, 138156743882137387631621796175964035612674, 138156743882137387631621795894489058902018, 138156743882137387631621795613014082191362, 138156743882137387631621795331539105480706, 138156743882137387631621795050064128770050, 138156743882137387631621794768589152059394]]
noncomputable def vd_3511_0_3 : List (List Nat) := [[138156743882137387631621794487114175348738, 138156743882137387631621794205639198638082, 138156743882137387631621793924164221927426, 138156743882137387631621793642689245216770, 138156743882137387631621793361214268506114, 138156743882137387631621793079739291795458, 138156743882137387631621792798264315084802, 138156743882137387631621792516789338374146], [138156743882137387631621792235314361663490, 138156743882137387631621791953839384952834, 138156743882137387631621791672364408242178, 138156743882137387631621791390889431531522, 138156743882137387631621791109414454820866, 138156743882137387631621790827939478110210, 138156743882137387631621790546464501399554, 138156743882137387631621790264989524688898], [138156743882137387631621789983514547978242, 138156743882137387631621789702039571267586, 138156743882137387631621789420564594556930, 138156743882137387631621789139089617846274, 138156743882137387631621788857614641135618, 138156743882137387631621788576139664424962, 138156743882137387631621788294664687714306, 138156743882137387631621788013189711003650], [138156743882137387631621787731714734292994, 138156743882137387631621787450239757582338, 138156743882137387631621787168764780871682, 138156743882137387631621786887289804161026, 138156743882137387631621786605814827450370, 138156743882137387631621786324339850739714, 138156743882137387631621786042864874029058, 138156743882137387631621785761389897318402], [138156743882137387631621785479914920607746, 138156743882137387631621785198439943897090, 138156743882137387631621784916964967186434, 138156743882137387631621784635489990475778, 138156743882137387631621784354015013765122, 138156743882137387631621784072540037054466, 138156743882137387631621783791065060343810, 138156743882137387631621783509590083633154], [138156743882137387631621783228115106922498, 138156743882137387631621782946640130211842, 138156743882137387631621782665165153501186, 138156743882137387631621782383690176790530, 138156743882137387631621782102215200079874, 138156743882137387631621781820740223369218, 138156743882137387631621781539265246658562, 138156743882137387631621781257790269947906], [138156743882137387631621780976315293237250, 138156743882137387631621780694840316526594, 138156743882137387631621780413365339815938, 32008470220275251193889746321410]]
noncomputable def vd_3511_0 : List (List (List Nat)) := [vd_3511_0_0, vd_3511_0_1, vd_3511_0_2, vd_3511_0_3]
noncomputable def vd_3511 : List (List (List (List Nat))) := [vd_3511_0]
noncomputable def vt_3511 : List (List am_I) := [[(.ofNat 2, .ofNat 5), (.ofNat 1, .ofNat 160), (.ofNat 1, .ofNat 3), (.ofNat 2, .ofNat 160), (.ofNat 3, .ofNat 160), (.ofNat 4, .ofNat 160), (.ofNat 5, .ofNat 160), (.ofNat 6, .ofNat 160)], [(.ofNat 7, .ofNat 160), (.ofNat 8, .ofNat 160), (.ofNat 9, .ofNat 160), (.ofNat 10, .ofNat 160), (.ofNat 11, .ofNat 160), (.ofNat 12, .ofNat 160), (.ofNat 13, .ofNat 160), (.ofNat 14, .ofNat 160)], [(.ofNat 15, .ofNat 160), (.ofNat 16, .ofNat 160), (.ofNat 17, .ofNat 160), (.ofNat 18, .ofNat 160), (.ofNat 19, .ofNat 160), (.ofNat 20, .ofNat 160), (.ofNat 21, .ofNat 160), (.ofNat 22, .ofNat 160)], [(.ofNat 23, .ofNat 160), (.ofNat 24, .ofNat 160), (.ofNat 25, .ofNat 160), (.ofNat 26, .ofNat 160), (.ofNat 27, .ofNat 160), (.ofNat 28, .ofNat 160), (.ofNat 29, .ofNat 160), (.ofNat 30, .ofNat 160)], [(.ofNat 31, .ofNat 160), (.ofNat 32, .ofNat 160), (.ofNat 33, .ofNat 160), (.ofNat 34, .ofNat 160), (.ofNat 35, .ofNat 160), (.ofNat 36, .ofNat 160), (.ofNat 37, .ofNat 160), (.ofNat 38, .ofNat 160)], [(.ofNat 39, .ofNat 160), (.ofNat 40, .ofNat 160), (.ofNat 41, .ofNat 160), (.ofNat 42, .ofNat 160), (.ofNat 43, .ofNat 160), (.ofNat 44, .ofNat 160), (.ofNat 45, .ofNat 160), (.ofNat 46, .ofNat 160)], [(.ofNat 47, .ofNat 160), (.ofNat 48, .ofNat 160), (.ofNat 49, .ofNat 160), (.ofNat 50, .ofNat 160), (.ofNat 51, .ofNat 160), (.ofNat 52, .ofNat 160), (.ofNat 53, .ofNat 160), (.ofNat 54, .ofNat 160)], [(.ofNat 55, .ofNat 160), (.ofNat 56, .ofNat 160), (.ofNat 57, .ofNat 160), (.ofNat 58, .ofNat 160), (.ofNat 59, .ofNat 160), (.ofNat 60, .ofNat 160), (.ofNat 61, .ofNat 160), (.ofNat 62, .ofNat 160)], [(.ofNat 63, .ofNat 160), (.ofNat 64, .ofNat 160), (.ofNat 65, .ofNat 160), (.ofNat 66, .ofNat 160), (.ofNat 67, .ofNat 160), (.ofNat 68, .ofNat 160), (.ofNat 69, .ofNat 160), (.ofNat 70, .ofNat 160)], [(.ofNat 71, .ofNat 160), (.ofNat 72, .ofNat 160), (.ofNat 73, .ofNat 160), (.ofNat 74, .ofNat 160), (.ofNat 75, .ofNat 160), (.ofNat 76, .ofNat 160), (.ofNat 77, .ofNat 160), (.ofNat 78, .ofNat 160)], [(.ofNat 79, .ofNat 160), (.ofNat 80, .ofNat 160), (.ofNat 81, .ofNat 160), (.ofNat 82, .ofNat 160), (.ofNat 83, .ofNat 160), (.ofNat 84, .ofNat 160), (.ofNat 85, .ofNat 160), (.ofNat 86, .ofNat 160)], [(.ofNat 87, .ofNat 160), (.ofNat 88, .ofNat 160), (.ofNat 89, .ofNat 160), (.ofNat 90, .ofNat 160), (.ofNat 91, .ofNat 160), (.ofNat 92, .ofNat 160), (.ofNat 93, .ofNat 160), (.ofNat 94, .ofNat 160)], [(.ofNat 95, .ofNat 160), (.ofNat 96, .ofNat 160), (.ofNat 97, .ofNat 160), (.ofNat 98, .ofNat 160), (.ofNat 99, .ofNat 160), (.ofNat 100, .ofNat 160), (.ofNat 101, .ofNat 160), (.ofNat 102, .ofNat 160)], [(.ofNat 103, .ofNat 160), (.ofNat 104, .ofNat 160), (.ofNat 105, .ofNat 160), (.ofNat 106, .ofNat 160), (.ofNat 107, .ofNat 160), (.ofNat 108, .ofNat 160), (.ofNat 109, .ofNat 160), (.ofNat 110, .ofNat 160)], [(.ofNat 111, .ofNat 160), (.ofNat 112, .ofNat 160), (.ofNat 113, .ofNat 160), (.ofNat 114, .ofNat 160), (.ofNat 115, .ofNat 160), (.ofNat 116, .ofNat 160), (.ofNat 117, .ofNat 160), (.ofNat 118, .ofNat 160)], [(.ofNat 119, .ofNat 160), (.ofNat 120, .ofNat 160), (.ofNat 121, .ofNat 160), (.ofNat 122, .ofNat 160), (.ofNat 123, .ofNat 160), (.ofNat 124, .ofNat 160), (.ofNat 125, .ofNat 160), (.ofNat 126, .ofNat 160)], [(.ofNat 127, .ofNat 160), (.ofNat 128, .ofNat 160), (.ofNat 129, .ofNat 160), (.ofNat 130, .ofNat 160), (.ofNat 131, .ofNat 160), (.ofNat 132, .ofNat 160), (.ofNat 133, .ofNat 160), (.ofNat 134, .ofNat 160)], [(.ofNat 135, .ofNat 160), (.ofNat 136, .ofNat 160), (.ofNat 137, .ofNat 160), (.ofNat 138, .ofNat 160), (.ofNat 139, .ofNat 160), (.ofNat 140, .ofNat 160), (.ofNat 141, .ofNat 160), (.ofNat 142, .ofNat 160)], [(.ofNat 143, .ofNat 160), (.ofNat 144, .ofNat 160), (.ofNat 145, .ofNat 160), (.ofNat 146, .ofNat 160), (.ofNat 147, .ofNat 160), (.ofNat 148, .ofNat 160), (.ofNat 149, .ofNat 160), (.ofNat 150, .ofNat 160)], [(.ofNat 151, .ofNat 160), (.ofNat 152, .ofNat 160), (.ofNat 153, .ofNat 160), (.ofNat 154, .ofNat 160), (.ofNat 155, .ofNat 160), (.ofNat 156, .ofNat 160), (.ofNat 157, .ofNat 160), (.ofNat 158, .ofNat 160)], [(.ofNat 159, .ofNat 160), (.ofNat 0, .ofNat 5), (.ofNat 0, .ofNat 160), (.ofNat 0, .ofNat 3), (.ofNat 1, .ofNat 6)]]
noncomputable def vc_3511 : vm_C := (fun _ => vp_3511, fun pc => [], [17, 20], 244, vm_inst 16 242 vt_3511 vf_3511 vd_3511)
theorem vx_3511_0 : vm_chk bt_151 [] vk_3511 39 vc_3511 0 8 = true := by decide +kernel
theorem vx_3511_1 : vm_chk bt_151 [] vk_3511 39 vc_3511 8 6 = true := by decide +kernel
theorem vx_3511_2 : vm_chk bt_151 [] vk_3511 39 vc_3511 14 6 = true := by decide +kernel
theorem vx_3511_3 : vm_chk bt_151 [] vk_3511 39 vc_3511 20 6 = true := by decide +kernel
theorem vx_3511_4 : vm_chk bt_151 [] vk_3511 39 vc_3511 26 6 = true := by decide +kernel
theorem vx_3511_5 : vm_chk bt_151 [] vk_3511 39 vc_3511 32 6 = true := by decide +kernel
theorem vx_3511_6 : vm_chk bt_151 [] vk_3511 39 vc_3511 38 6 = true := by decide +kernel
theorem vx_3511_7 : vm_chk bt_151 [] vk_3511 39 vc_3511 44 6 = true := by decide +kernel
theorem vx_3511_8 : vm_chk bt_151 [] vk_3511 39 vc_3511 50 6 = true := by decide +kernel
theorem vx_3511_9 : vm_chk bt_151 [] vk_3511 39 vc_3511 56 6 = true := by decide +kernel
theorem vx_3511_10 : vm_chk bt_151 [] vk_3511 39 vc_3511 62 6 = true := by decide +kernel
theorem vx_3511_11 : vm_chk bt_151 [] vk_3511 39 vc_3511 68 6 = true := by decide +kernel
theorem vx_3511_12 : vm_chk bt_151 [] vk_3511 39 vc_3511 74 6 = true := by decide +kernel
theorem vx_3511_13 : vm_chk bt_151 [] vk_3511 39 vc_3511 80 6 = true := by decide +kernel
theorem vx_3511_14 : vm_chk bt_151 [] vk_3511 39 vc_3511 86 6 = true := by decide +kernel
theorem vx_3511_15 : vm_chk bt_151 [] vk_3511 39 vc_3511 92 6 = true := by decide +kernel
theorem vx_3511_16 : vm_chk bt_151 [] vk_3511 39 vc_3511 98 6 = true := by decide +kernel
theorem vx_3511_17 : vm_chk bt_151 [] vk_3511 39 vc_3511 104 6 = true := by decide +kernel
theorem vx_3511_18 : vm_chk bt_151 [] vk_3511 39 vc_3511 110 6 = true := by decide +kernel
theorem vx_3511_19 : vm_chk bt_151 [] vk_3511 39 vc_3511 116 6 = true := by decide +kernel
theorem vx_3511_20 : vm_chk bt_151 [] vk_3511 39 vc_3511 122 6 = true := by decide +kernel
theorem vx_3511_21 : vm_chk bt_151 [] vk_3511 39 vc_3511 128 6 = true := by decide +kernel
theorem vx_3511_22 : vm_chk bt_151 [] vk_3511 39 vc_3511 134 6 = true := by decide +kernel
theorem vx_3511_23 : vm_chk bt_151 [] vk_3511 39 vc_3511 140 6 = true := by decide +kernel
theorem vx_3511_24 : vm_chk bt_151 [] vk_3511 39 vc_3511 146 6 = true := by decide +kernel
theorem vx_3511_25 : vm_chk bt_151 [] vk_3511 39 vc_3511 152 6 = true := by decide +kernel
theorem vx_3511_26 : vm_chk bt_151 [] vk_3511 39 vc_3511 158 7 = true := by decide +kernel
theorem vx_3511_27 : vm_chk bt_151 [] vk_3511 39 vc_3511 165 11 = true := by decide +kernel
theorem vx_3511_28 : vm_chk bt_151 [] vk_3511 39 vc_3511 176 11 = true := by decide +kernel
theorem vx_3511_29 : vm_chk bt_151 [] vk_3511 39 vc_3511 187 11 = true := by decide +kernel
theorem vx_3511_30 : vm_chk bt_151 [] vk_3511 39 vc_3511 198 11 = true := by decide +kernel
theorem vx_3511_31 : vm_chk bt_151 [] vk_3511 39 vc_3511 209 11 = true := by decide +kernel
theorem vx_3511_32 : vm_chk bt_151 [] vk_3511 39 vc_3511 220 11 = true := by decide +kernel
theorem vx_3511_33 : vm_chk bt_151 [] vk_3511 39 vc_3511 231 11 = true := by decide +kernel
theorem vx_3511_34 : vm_chk bt_151 [] vk_3511 39 vc_3511 242 2 = true := by decide +kernel
theorem vy_3511 : vm_ents 151 39 vc_3511 ve_3511 = true := by decide +kernel
theorem vw_3511 : ∀ q ∈ vk_3511, vm_wt 7 q := vm_wts (vm_kc (vm_up v_3509 rfl) (vm_kc (vm_up v_3510 rfl) (vm_kc (vm_up (vj_898 0 (by decide)) rfl) (vm_kc (vm_up v_854 rfl) (vm_kc (vm_up v_856 rfl) (vm_kc (vm_up v_964 rfl) (vm_kc (vm_up v_996 rfl) (vm_kc (vm_up v_1028 rfl) (vm_kc (vm_up (v_F_readLine 153 (by decide) (by decide)) rfl) (vm_kc (vm_up (v_F_readLine 151 (by decide) (by decide)) rfl) (vm_kc (vm_up (v_F_readLine 149 (by decide) (by decide)) rfl) (vm_kc (vm_up (v_F_readLine 147 (by decide) (by decide)) rfl) (vm_kc (vm_up (v_F_readLine 145 (by decide) (by decide)) rfl) (vm_kc (vm_up (v_F_readLine 143 (by decide) (by decide)) rfl) (vm_kc (vm_up (v_F_readLine 141 (by decide) (by decide)) rfl) (vm_kc (vm_up (v_F_readLine 139 (by decide) (by decide)) rfl) (vm_kc (vm_up (v_F_readLine 137 (by decide) (by decide)) rfl) (vm_kc (vm_up (v_F_readLine 135 (by decide) (by decide)) rfl) (vm_kc (vm_up (v_F_readLine 133 (by decide) (by decide)) rfl) (vm_kc (vm_up (v_F_readLine 131 (by decide) (by decide)) rfl) (vm_kc (vm_up (v_F_readLine 129 (by decide) (by decide)) rfl) (vm_kc (vm_up (v_F_readLine 127 (by decide) (by decide)) rfl) (vm_kc (vm_up (v_F_readLine 125 (by decide) (by decide)) rfl) (vm_kc (vm_up (v_F_readLine 123 (by decide) (by decide)) rfl) (vm_kc (vm_up (v_F_readLine 121 (by decide) (by decide)) rfl) (vm_kc (vm_up (v_F_readLine 119 (by decide) (by decide)) rfl) (vm_kc (vm_up (v_F_readLine 117 (by decide) (by decide)) rfl) (vm_kc (vm_up (v_F_readLine 115 (by decide) (by decide)) rfl) (vm_kc (vm_up (v_F_readLine 113 (by decide) (by decide)) rfl) (vm_kc (vm_up (v_F_readLine 111 (by decide) (by decide)) rfl) (vm_kc (vm_up (v_F_readLine 109 (by decide) (by decide)) rfl) (vm_kc (vm_up (v_F_readLine 107 (by decide) (by decide)) rfl) (vm_kc (vm_up (v_F_readLine 105 (by decide) (by decide)) rfl) (vm_kc (vm_up (v_F_readLine 103 (by decide) (by decide)) rfl) (vm_kc (vm_up (v_F_readLine 101 (by decide) (by decide)) rfl) (vm_kc (vm_up (v_F_readLine 99 (by decide) (by decide)) rfl) (vm_kc (vm_up (v_F_readLine 97 (by decide) (by decide)) rfl) (vm_kc (vm_up (v_F_readLine 95 (by decide) (by decide)) rfl) (vm_kc (vm_up (v_F_readLine 93 (by decide) (by decide)) rfl) (vm_kc (vm_up (v_F_readLine 91 (by decide) (by decide)) rfl) (vm_kc (vm_up (v_F_readLine 89 (by decide) (by decide)) rfl) (vm_kc (vm_up (v_F_readLine 87 (by decide) (by decide)) rfl) (vm_kc (vm_up (v_F_readLine 85 (by decide) (by decide)) rfl) (vm_kc (vm_up (v_F_readLine 83 (by decide) (by decide)) rfl) (vm_kc (vm_up (v_F_readLine 81 (by decide) (by decide)) rfl) (vm_kc (vm_up (v_F_readLine 79 (by decide) (by decide)) rfl) (vm_kc (vm_up (v_F_readLine 77 (by decide) (by decide)) rfl) (vm_kc (vm_up (v_F_readLine 75 (by decide) (by decide)) rfl) (vm_kc (vm_up (v_F_readLine 73 (by decide) (by decide)) rfl) (vm_kc (vm_up (v_F_readLine 71 (by decide) (by decide)) rfl) (vm_kc (vm_up (v_F_readLine 69 (by decide) (by decide)) rfl) (vm_kc (vm_up (v_F_readLine 67 (by decide) (by decide)) rfl) (vm_kc (vm_up (v_F_readLine 65 (by decide) (by decide)) rfl) (vm_kc (vm_up (v_F_readLine 63 (by decide) (by decide)) rfl) (vm_kc (vm_up (v_F_readLine 61 (by decide) (by decide)) rfl) (vm_kc (vm_up (v_F_readLine 59 (by decide) (by decide)) rfl) (vm_kc (vm_up (v_F_readLine 57 (by decide) (by decide)) rfl) (vm_kc (vm_up (v_F_readLine 55 (by decide) (by decide)) rfl) (vm_kc (vm_up (v_F_readLine 53 (by decide) (by decide)) rfl) (vm_kc (vm_up (v_F_readLine 51 (by decide) (by decide)) rfl) (vm_kc (vm_up (v_F_readLine 49 (by decide) (by decide)) rfl) (vm_kc (vm_up (v_F_readLine 47 (by decide) (by decide)) rfl) (vm_kc (vm_up (v_F_readLine 45 (by decide) (by decide)) rfl) (vm_kc (vm_up (v_F_readLine 43 (by decide) (by decide)) rfl) (vm_kc (vm_up (v_F_readLine 41 (by decide) (by decide)) rfl) (vm_kc (vm_up (v_F_readLine 39 (by decide) (by decide)) rfl) (vm_kc (vm_up (v_F_readLine 37 (by decide) (by decide)) rfl) (vm_kc (vm_up (v_F_readLine 35 (by decide) (by decide)) rfl) (vm_kc (vm_up (v_F_readLine 33 (by decide) (by decide)) rfl) (vm_kc (vm_up (v_F_readLine 31 (by decide) (by decide)) rfl) (vm_kc (vm_up (v_F_readLine 29 (by decide) (by decide)) rfl) (vm_kc (vm_up (v_F_readLine 27 (by decide) (by decide)) rfl) (vm_kc (vm_up (v_F_readLine 25 (by decide) (by decide)) rfl) (vm_kc (vm_up (v_F_readLine 23 (by decide) (by decide)) rfl) (vm_kc (vm_up (v_F_readLine 21 (by decide) (by decide)) rfl) (vm_kc (vm_up (v_F_readLine 19 (by decide) (by decide)) rfl) (vm_kc (vm_up (v_F_readLine 17 (by decide) (by decide)) rfl) (vm_kc (vm_up (v_F_readLine 15 (by decide) (by decide)) rfl) (vm_kc (vm_up (v_F_readLine 13 (by decide) (by decide)) rfl) (vm_kc (vm_up (v_F_readLine 11 (by decide) (by decide)) rfl) (vm_kc (vm_up (v_F_readLine 9 (by decide) (by decide)) rfl) (vm_kc (vm_up (v_F_readLine 7 (by decide) (by decide)) rfl) (vm_kc (vm_up (v_F_readLine 5 (by decide) (by decide)) rfl) (vm_kc (vm_up (v_F_readLine 3 (by decide) (by decide)) rfl) (vm_kc (vm_up (v_F_readLine 1 (by decide) (by decide)) rfl) vm_kn))))))))))))))))))))))))))))))))))))))))))))))))))))))))))))))))))))))))))))))))))))) (by decide +kernel)
theorem v_3511 : vm_at 8 q_3511 := vm_ok (inl := []) (es := ve_3511) bq_151 (by decide) vw_3511 vy_3511 (fun i => vm_hc vx_3511_34 rfl (vm_hc vx_3511_33 rfl (vm_hc vx_3511_32 rfl (vm_hc vx_3511_31 rfl (vm_hc vx_3511_30 rfl (vm_hc vx_3511_29 rfl (vm_hc vx_3511_28 rfl (vm_hc vx_3511_27 rfl (vm_hc vx_3511_26 rfl (vm_hc vx_3511_25 rfl (vm_hc vx_3511_24 rfl (vm_hc vx_3511_23 rfl (vm_hc vx_3511_22 rfl (vm_hc vx_3511_21 rfl (vm_hc vx_3511_20 rfl (vm_hc vx_3511_19 rfl (vm_hc vx_3511_18 rfl (vm_hc vx_3511_17 rfl (vm_hc vx_3511_16 rfl (vm_hc vx_3511_15 rfl (vm_hc vx_3511_14 rfl (vm_hc vx_3511_13 rfl (vm_hc vx_3511_12 rfl (vm_hc vx_3511_11 rfl (vm_hc vx_3511_10 rfl (vm_hc vx_3511_9 rfl (vm_hc vx_3511_8 rfl (vm_hc vx_3511_7 rfl (vm_hc vx_3511_6 rfl (vm_hc vx_3511_5 rfl (vm_hc vx_3511_4 rfl (vm_hc vx_3511_3 rfl (vm_hc vx_3511_2 rfl (vm_hc vx_3511_1 rfl (vm_hc vx_3511_0 rfl (fun h => absurd h (Nat.not_lt_zero _))))))))))))))))))))))))))))))))))))) _ List.mem_cons_self
noncomputable def vp_3512 : List vm_R := [(some (.inl (.negSucc 0, .negSucc 0)), va_h0)]
noncomputable def ve_3512 : List vm_E := [([.inr (.inr (some 8)), .inl (.negSucc 2147483647, .negSucc 0), .inl (.negSucc 2147483647, .negSucc 0), .inl (.negSucc 2147483647, .negSucc 0)], va_h0, 0, [0])]
noncomputable def q_3512 : vm_Q := (130, [.inr (.inr (some 8)), .inl (.negSucc 2147483647, .negSucc 0), .inl (.negSucc 2147483647, .negSucc 0), .inl (.negSucc 2147483647, .negSucc 0)], va_h0, vp_3512)
noncomputable def vk_3512 : List vm_U := [(q_297, true, [])]
noncomputable def vf_3512 : List ((Nat → am_I) → vm_A) := [fun v => (0, [(0, .inr (.inr (some 8))), (1, .inl (.negSucc 2147483647, .negSucc 0)), (2, .inl (.negSucc 2147483647, .negSucc 0)), (3, .inl (.negSucc 2147483647, .negSucc 0))], [], (80, []))]
noncomputable def vd_3512_0_0 : List (List Nat) := [[0]]
noncomputable def vd_3512_0 : List (List (List Nat)) := [vd_3512_0_0]
noncomputable def vd_3512 : List (List (List (List Nat))) := [vd_3512_0]
noncomputable def vt_3512 : List (List am_I) := []
noncomputable def vc_3512 : vm_C := (fun _ => vp_3512, fun pc => (match Nat.beq pc 0 with
  | true => [(fun _ _ => some (.inl 1), fun _ _ => some [.ofNat 0, .ofNat 1, .ofNat 2, .ofNat 3, .ofNat 4])]
  | false => []), [], 1, vm_inst 8 1 vt_3512 vf_3512 vd_3512)
theorem vx_3512_0 : vm_chk bt_130 [] vk_3512 7 vc_3512 0 1 = true := by decide +kernel
theorem vy_3512 : vm_ents 130 7 vc_3512 ve_3512 = true := by decide +kernel
theorem vw_3512 : ∀ q ∈ vk_3512, vm_wt 2 q := vm_wts (vm_kc (vm_up v_297 rfl) vm_kn) (by decide +kernel)
theorem v_3512 : vm_at 3 q_3512 := vm_ok (inl := []) (es := ve_3512) bq_130 (by decide) vw_3512 vy_3512 (fun i => vm_hc vx_3512_0 rfl (fun h => absurd h (Nat.not_lt_zero _))) _ List.mem_cons_self
noncomputable def vp_3513 : List vm_R := [(some (.inl (.ofNat 0, .ofNat 0)), va_h0)]
noncomputable def ve_3513 : List vm_E := [([.inl (.negSucc 2147483647, .negSucc 0), .inl (.negSucc 2147483647, .negSucc 0)], va_h0, 0, [0])]
noncomputable def q_3513 : vm_Q := (220, [.inl (.negSucc 2147483647, .negSucc 0), .inl (.negSucc 2147483647, .negSucc 0)], va_h0, vp_3513)
noncomputable def vk_3513 : List vm_U := [(q_571, true, [])]
noncomputable def vf_3513 : List ((Nat → am_I) → vm_A) := [fun v => (0, [(0, .inl (.negSucc 2147483647, .negSucc 0)), (1, .inl (.negSucc 2147483647, .negSucc 0))], [], (80, []))]
noncomputable def vd_3513_0_0 : List (List Nat) := [[0]]
noncomputable def vd_3513_0 : List (List (List Nat)) := [vd_3513_0_0]
noncomputable def vd_3513 : List (List (List (List Nat))) := [vd_3513_0]
noncomputable def vt_3513 : List (List am_I) := []
noncomputable def vc_3513 : vm_C := (fun _ => vp_3513, fun pc => [], [], 1, vm_inst 8 1 vt_3513 vf_3513 vd_3513)
theorem vx_3513_0 : vm_chk bt_220 [] vk_3513 10 vc_3513 0 1 = true := by decide +kernel
theorem vy_3513 : vm_ents 220 10 vc_3513 ve_3513 = true := by decide +kernel
theorem vw_3513 : ∀ q ∈ vk_3513, vm_wt 2 q := vm_wts (vm_kc (vm_up v_571 rfl) vm_kn) (by decide +kernel)
theorem v_3513 : vm_at 3 q_3513 := vm_ok (inl := []) (es := ve_3513) bq_220 (by decide) vw_3513 vy_3513 (fun i => vm_hc vx_3513_0 rfl (fun h => absurd h (Nat.not_lt_zero _))) _ List.mem_cons_self
noncomputable def vp_3514 : List vm_R := [(some (.inl (.negSucc 0, .negSucc 0)), va_h0)]
noncomputable def ve_3514 : List vm_E := [([.inr (.inr (some 70)), .inl (.negSucc 2147483647, .negSucc 0), .inl (.negSucc 2147483647, .negSucc 0), .inl (.negSucc 2147483647, .negSucc 0)], va_h0, 0, [0])]
noncomputable def q_3514 : vm_Q := (219, [.inr (.inr (some 70)), .inl (.negSucc 2147483647, .negSucc 0), .inl (.negSucc 2147483647, .negSucc 0), .inl (.negSucc 2147483647, .negSucc 0)], va_h0, vp_3514)
noncomputable def vk_3514 : List vm_U := [(q_3513, true, [])]
noncomputable def vf_3514 : List ((Nat → am_I) → vm_A) := [fun v => (0, [(0, .inr (.inr (some 70))), (1, .inl (.negSucc 2147483647, .negSucc 0)), (2, .inl (.negSucc 2147483647, .negSucc 0)), (3, .inl (.negSucc 2147483647, .negSucc 0))], [], (80, []))]
noncomputable def vd_3514_0_0 : List (List Nat) := [[0]]
noncomputable def vd_3514_0 : List (List (List Nat)) := [vd_3514_0_0]
noncomputable def vd_3514 : List (List (List (List Nat))) := [vd_3514_0]
noncomputable def vt_3514 : List (List am_I) := []
noncomputable def vc_3514 : vm_C := (fun _ => vp_3514, fun pc => (match Nat.beq pc 0 with
  | true => [(fun _ _ => some (.inl 1), fun _ _ => some [.ofNat 0, .ofNat 1, .ofNat 2, .ofNat 3, .ofNat 4])]
  | false => []), [40], 1, vm_inst 8 1 vt_3514 vf_3514 vd_3514)
theorem vx_3514_0 : vm_chk bt_219 [] vk_3514 8 vc_3514 0 1 = true := by decide +kernel
theorem vy_3514 : vm_ents 219 8 vc_3514 ve_3514 = true := by decide +kernel
theorem vw_3514 : ∀ q ∈ vk_3514, vm_wt 3 q := vm_wts (vm_kc (vm_up v_3513 rfl) vm_kn) (by decide +kernel)
theorem v_3514 : vm_at 4 q_3514 := vm_ok (inl := []) (es := ve_3514) bq_219 (by decide) vw_3514 vy_3514 (fun i => vm_hc vx_3514_0 rfl (fun h => absurd h (Nat.not_lt_zero _))) _ List.mem_cons_self
noncomputable def vp_3515 : List vm_R := [(some (.inl (.negSucc 0, .negSucc 0)), va_h0)]
noncomputable def ve_3515 : List vm_E := [([.inr (.inr (some 8)), .inl (.negSucc 2147483647, .negSucc 0), .inl (.negSucc 2147483647, .negSucc 0), .inl (.ofNat 0, .ofNat 40)], va_h0, 0, [0])]
noncomputable def q_3515 : vm_Q := (130, [.inr (.inr (some 8)), .inl (.negSucc 2147483647, .negSucc 0), .inl (.negSucc 2147483647, .negSucc 0), .inl (.ofNat 0, .ofNat 40)], va_h0, vp_3515)
noncomputable def vk_3515 : List vm_U := [(q_297, true, [])]
noncomputable def vf_3515 : List ((Nat → am_I) → vm_A) := [fun v => (0, [(0, .inr (.inr (some 8))), (1, .inl (.negSucc 2147483647, .negSucc 0)), (2, .inl (.negSucc 2147483647, .negSucc 0)), (3, .inl (.ofNat 0, .ofNat 40))], [], (80, []))]
noncomputable def vd_3515_0_0 : List (List Nat) := [[0]]
noncomputable def vd_3515_0 : List (List (List Nat)) := [vd_3515_0_0]
noncomputable def vd_3515 : List (List (List (List Nat))) := [vd_3515_0]
noncomputable def vt_3515 : List (List am_I) := []
noncomputable def vc_3515 : vm_C := (fun _ => vp_3515, fun pc => (match Nat.beq pc 0 with
  | true => [(fun _ _ => some (.inl 1), fun _ _ => some [.ofNat 0, .ofNat 1, .ofNat 2, .ofNat 3, .ofNat 4])]
  | false => []), [], 1, vm_inst 8 1 vt_3515 vf_3515 vd_3515)
theorem vx_3515_0 : vm_chk bt_130 [] vk_3515 7 vc_3515 0 1 = true := by decide +kernel
theorem vy_3515 : vm_ents 130 7 vc_3515 ve_3515 = true := by decide +kernel
theorem vw_3515 : ∀ q ∈ vk_3515, vm_wt 2 q := vm_wts (vm_kc (vm_up v_297 rfl) vm_kn) (by decide +kernel)
theorem v_3515 : vm_at 3 q_3515 := vm_ok (inl := []) (es := ve_3515) bq_130 (by decide) vw_3515 vy_3515 (fun i => vm_hc vx_3515_0 rfl (fun h => absurd h (Nat.not_lt_zero _))) _ List.mem_cons_self
noncomputable def vp_3516 : List vm_R := [(some (.inl (.negSucc 0, .negSucc 0)), va_h0)]
noncomputable def ve_3516 : List vm_E := [([.inr (.inr (some 70)), .inl (.negSucc 2147483647, .negSucc 0), .inl (.negSucc 2147483647, .negSucc 0), .inl (.ofNat 0, .ofNat 40)], va_h0, 0, [0])]
noncomputable def q_3516 : vm_Q := (219, [.inr (.inr (some 70)), .inl (.negSucc 2147483647, .negSucc 0), .inl (.negSucc 2147483647, .negSucc 0), .inl (.ofNat 0, .ofNat 40)], va_h0, vp_3516)
noncomputable def vk_3516 : List vm_U := [(q_3513, true, [])]
noncomputable def vf_3516 : List ((Nat → am_I) → vm_A) := [fun v => (0, [(0, .inr (.inr (some 70))), (1, .inl (.negSucc 2147483647, .negSucc 0)), (2, .inl (.negSucc 2147483647, .negSucc 0)), (3, .inl (.ofNat 0, .ofNat 40))], [], (80, []))]
noncomputable def vd_3516_0_0 : List (List Nat) := [[0]]
noncomputable def vd_3516_0 : List (List (List Nat)) := [vd_3516_0_0]
noncomputable def vd_3516 : List (List (List (List Nat))) := [vd_3516_0]
noncomputable def vt_3516 : List (List am_I) := []
noncomputable def vc_3516 : vm_C := (fun _ => vp_3516, fun pc => (match Nat.beq pc 0 with
  | true => [(fun _ _ => some (.inl 1), fun _ _ => some [.ofNat 0, .ofNat 1, .ofNat 2, .ofNat 3, .ofNat 4])]
  | false => []), [40], 1, vm_inst 8 1 vt_3516 vf_3516 vd_3516)
theorem vx_3516_0 : vm_chk bt_219 [] vk_3516 8 vc_3516 0 1 = true := by decide +kernel
theorem vy_3516 : vm_ents 219 8 vc_3516 ve_3516 = true := by decide +kernel
theorem vw_3516 : ∀ q ∈ vk_3516, vm_wt 3 q := vm_wts (vm_kc (vm_up v_3513 rfl) vm_kn) (by decide +kernel)
theorem v_3516 : vm_at 4 q_3516 := vm_ok (inl := []) (es := ve_3516) bq_219 (by decide) vw_3516 vy_3516 (fun i => vm_hc vx_3516_0 rfl (fun h => absurd h (Nat.not_lt_zero _))) _ List.mem_cons_self
noncomputable def vp_3517 : List vm_R := [(some (.inl (.negSucc 0, .negSucc 0)), va_h0)]
noncomputable def ve_3517 : List vm_E := [([.inr (.inr (some 8)), .inl (.negSucc 2147483647, .negSucc 0), .inl (.negSucc 2147483647, .negSucc 0), .inl (.ofNat 41, .ofNat 2147483647)], va_h0, 0, [0])]
noncomputable def q_3517 : vm_Q := (130, [.inr (.inr (some 8)), .inl (.negSucc 2147483647, .negSucc 0), .inl (.negSucc 2147483647, .negSucc 0), .inl (.ofNat 41, .ofNat 2147483647)], va_h0, vp_3517)
noncomputable def vk_3517 : List vm_U := [(q_297, true, [])]
noncomputable def vf_3517 : List ((Nat → am_I) → vm_A) := [fun v => (0, [(0, .inr (.inr (some 8))), (1, .inl (.negSucc 2147483647, .negSucc 0)), (2, .inl (.negSucc 2147483647, .negSucc 0)), (3, .inl (.ofNat 41, .ofNat 2147483647))], [], (80, []))]
noncomputable def vd_3517_0_0 : List (List Nat) := [[0]]
noncomputable def vd_3517_0 : List (List (List Nat)) := [vd_3517_0_0]
noncomputable def vd_3517 : List (List (List (List Nat))) := [vd_3517_0]
noncomputable def vt_3517 : List (List am_I) := []
noncomputable def vc_3517 : vm_C := (fun _ => vp_3517, fun pc => (match Nat.beq pc 0 with
  | true => [(fun _ _ => some (.inl 1), fun _ _ => some [.ofNat 0, .ofNat 1, .ofNat 2, .ofNat 3, .ofNat 4])]
  | false => []), [], 1, vm_inst 8 1 vt_3517 vf_3517 vd_3517)
theorem vx_3517_0 : vm_chk bt_130 [] vk_3517 7 vc_3517 0 1 = true := by decide +kernel
theorem vy_3517 : vm_ents 130 7 vc_3517 ve_3517 = true := by decide +kernel
theorem vw_3517 : ∀ q ∈ vk_3517, vm_wt 2 q := vm_wts (vm_kc (vm_up v_297 rfl) vm_kn) (by decide +kernel)
theorem v_3517 : vm_at 3 q_3517 := vm_ok (inl := []) (es := ve_3517) bq_130 (by decide) vw_3517 vy_3517 (fun i => vm_hc vx_3517_0 rfl (fun h => absurd h (Nat.not_lt_zero _))) _ List.mem_cons_self
noncomputable def vp_3518 : List vm_R := [(some (.inl (.negSucc 0, .negSucc 0)), va_h0)]
noncomputable def ve_3518 : List vm_E := [([.inr (.inr (some 70)), .inl (.negSucc 2147483647, .negSucc 0), .inl (.negSucc 2147483647, .negSucc 0), .inl (.ofNat 41, .ofNat 2147483647)], va_h0, 0, [0])]
noncomputable def q_3518 : vm_Q := (219, [.inr (.inr (some 70)), .inl (.negSucc 2147483647, .negSucc 0), .inl (.negSucc 2147483647, .negSucc 0), .inl (.ofNat 41, .ofNat 2147483647)], va_h0, vp_3518)
noncomputable def vk_3518 : List vm_U := [(q_3513, true, [])]
noncomputable def vf_3518 : List ((Nat → am_I) → vm_A) := [fun v => (0, [(0, .inr (.inr (some 70))), (1, .inl (.negSucc 2147483647, .negSucc 0)), (2, .inl (.negSucc 2147483647, .negSucc 0)), (3, .inl (.ofNat 41, .ofNat 2147483647))], [], (80, []))]
noncomputable def vd_3518_0_0 : List (List Nat) := [[0]]
noncomputable def vd_3518_0 : List (List (List Nat)) := [vd_3518_0_0]
noncomputable def vd_3518 : List (List (List (List Nat))) := [vd_3518_0]
noncomputable def vt_3518 : List (List am_I) := []
noncomputable def vc_3518 : vm_C := (fun _ => vp_3518, fun pc => (match Nat.beq pc 0 with
  | true => [(fun _ _ => some (.inl 1), fun _ _ => some [.ofNat 0, .ofNat 1, .ofNat 2, .ofNat 3, .ofNat 4])]
  | false => []), [40], 1, vm_inst 8 1 vt_3518 vf_3518 vd_3518)
theorem vx_3518_0 : vm_chk bt_219 [] vk_3518 8 vc_3518 0 1 = true := by decide +kernel
theorem vy_3518 : vm_ents 219 8 vc_3518 ve_3518 = true := by decide +kernel
theorem vw_3518 : ∀ q ∈ vk_3518, vm_wt 3 q := vm_wts (vm_kc (vm_up v_3513 rfl) vm_kn) (by decide +kernel)
theorem v_3518 : vm_at 4 q_3518 := vm_ok (inl := []) (es := ve_3518) bq_219 (by decide) vw_3518 vy_3518 (fun i => vm_hc vx_3518_0 rfl (fun h => absurd h (Nat.not_lt_zero _))) _ List.mem_cons_self
noncomputable def vp_3519 : List vm_R := [(some (.inl (.negSucc 0, .negSucc 0)), va_h0)]
noncomputable def ve_3519 : List vm_E := [([.inr (.inr (some 8)), .inl (.negSucc 2147483647, .negSucc 0), .inl (.ofNat 0, .ofNat 2), .inl (.negSucc 2147483647, .negSucc 0)], va_h0, 0, [0])]
noncomputable def q_3519 : vm_Q := (130, [.inr (.inr (some 8)), .inl (.negSucc 2147483647, .negSucc 0), .inl (.ofNat 0, .ofNat 2), .inl (.negSucc 2147483647, .negSucc 0)], va_h0, vp_3519)
noncomputable def vk_3519 : List vm_U := [(q_297, true, [])]
noncomputable def vf_3519 : List ((Nat → am_I) → vm_A) := [fun v => (0, [(0, .inr (.inr (some 8))), (1, .inl (.negSucc 2147483647, .negSucc 0)), (2, .inl (.ofNat 0, .ofNat 2)), (3, .inl (.negSucc 2147483647, .negSucc 0))], [], (80, []))]
noncomputable def vd_3519_0_0 : List (List Nat) := [[0]]
noncomputable def vd_3519_0 : List (List (List Nat)) := [vd_3519_0_0]
noncomputable def vd_3519 : List (List (List (List Nat))) := [vd_3519_0]
noncomputable def vt_3519 : List (List am_I) := []
noncomputable def vc_3519 : vm_C := (fun _ => vp_3519, fun pc => (match Nat.beq pc 0 with
  | true => [(fun _ _ => some (.inl 1), fun _ _ => some [.ofNat 0, .ofNat 1, .ofNat 2, .ofNat 3, .ofNat 4])]
  | false => []), [], 1, vm_inst 8 1 vt_3519 vf_3519 vd_3519)
theorem vx_3519_0 : vm_chk bt_130 [] vk_3519 7 vc_3519 0 1 = true := by decide +kernel
theorem vy_3519 : vm_ents 130 7 vc_3519 ve_3519 = true := by decide +kernel
theorem vw_3519 : ∀ q ∈ vk_3519, vm_wt 2 q := vm_wts (vm_kc (vm_up v_297 rfl) vm_kn) (by decide +kernel)
theorem v_3519 : vm_at 3 q_3519 := vm_ok (inl := []) (es := ve_3519) bq_130 (by decide) vw_3519 vy_3519 (fun i => vm_hc vx_3519_0 rfl (fun h => absurd h (Nat.not_lt_zero _))) _ List.mem_cons_self
noncomputable def vp_3520 : List vm_R := [(some (.inl (.ofNat 0, .ofNat 0)), va_h0)]
noncomputable def ve_3520 : List vm_E := [([.inl (.negSucc 2147483647, .negSucc 0), .inl (.ofNat 0, .ofNat 2)], va_h0, 0, [0])]
noncomputable def q_3520 : vm_Q := (220, [.inl (.negSucc 2147483647, .negSucc 0), .inl (.ofNat 0, .ofNat 2)], va_h0, vp_3520)
noncomputable def vk_3520 : List vm_U := [(q_571, true, [])]
noncomputable def vf_3520 : List ((Nat → am_I) → vm_A) := [fun v => (0, [(0, .inl (.negSucc 2147483647, .negSucc 0)), (1, .inl (.ofNat 0, .ofNat 2))], [], (80, []))]
noncomputable def vd_3520_0_0 : List (List Nat) := [[0]]
noncomputable def vd_3520_0 : List (List (List Nat)) := [vd_3520_0_0]
noncomputable def vd_3520 : List (List (List (List Nat))) := [vd_3520_0]
noncomputable def vt_3520 : List (List am_I) := []
noncomputable def vc_3520 : vm_C := (fun _ => vp_3520, fun pc => [], [], 1, vm_inst 8 1 vt_3520 vf_3520 vd_3520)
theorem vx_3520_0 : vm_chk bt_220 [] vk_3520 10 vc_3520 0 1 = true := by decide +kernel
theorem vy_3520 : vm_ents 220 10 vc_3520 ve_3520 = true := by decide +kernel
theorem vw_3520 : ∀ q ∈ vk_3520, vm_wt 2 q := vm_wts (vm_kc (vm_up v_571 rfl) vm_kn) (by decide +kernel)
theorem v_3520 : vm_at 3 q_3520 := vm_ok (inl := []) (es := ve_3520) bq_220 (by decide) vw_3520 vy_3520 (fun i => vm_hc vx_3520_0 rfl (fun h => absurd h (Nat.not_lt_zero _))) _ List.mem_cons_self
noncomputable def vp_3521 : List vm_R := [(some (.inl (.negSucc 0, .negSucc 0)), va_h0)]
noncomputable def ve_3521 : List vm_E := [([.inr (.inr (some 70)), .inl (.negSucc 2147483647, .negSucc 0), .inl (.ofNat 0, .ofNat 2), .inl (.negSucc 2147483647, .negSucc 0)], va_h0, 0, [0])]
noncomputable def q_3521 : vm_Q := (219, [.inr (.inr (some 70)), .inl (.negSucc 2147483647, .negSucc 0), .inl (.ofNat 0, .ofNat 2), .inl (.negSucc 2147483647, .negSucc 0)], va_h0, vp_3521)
noncomputable def vk_3521 : List vm_U := [(q_3520, true, [])]
noncomputable def vf_3521 : List ((Nat → am_I) → vm_A) := [fun v => (0, [(0, .inr (.inr (some 70))), (1, .inl (.negSucc 2147483647, .negSucc 0)), (2, .inl (.ofNat 0, .ofNat 2)), (3, .inl (.negSucc 2147483647, .negSucc 0))], [], (80, []))]
noncomputable def vd_3521_0_0 : List (List Nat) := [[0]]
noncomputable def vd_3521_0 : List (List (List Nat)) := [vd_3521_0_0]
noncomputable def vd_3521 : List (List (List (List Nat))) := [vd_3521_0]
noncomputable def vt_3521 : List (List am_I) := []
noncomputable def vc_3521 : vm_C := (fun _ => vp_3521, fun pc => (match Nat.beq pc 0 with
  | true => [(fun _ _ => some (.inl 1), fun _ _ => some [.ofNat 0, .ofNat 1, .ofNat 2, .ofNat 3, .ofNat 4])]
  | false => []), [40], 1, vm_inst 8 1 vt_3521 vf_3521 vd_3521)
theorem vx_3521_0 : vm_chk bt_219 [] vk_3521 8 vc_3521 0 1 = true := by decide +kernel
theorem vy_3521 : vm_ents 219 8 vc_3521 ve_3521 = true := by decide +kernel
theorem vw_3521 : ∀ q ∈ vk_3521, vm_wt 3 q := vm_wts (vm_kc (vm_up v_3520 rfl) vm_kn) (by decide +kernel)
theorem v_3521 : vm_at 4 q_3521 := vm_ok (inl := []) (es := ve_3521) bq_219 (by decide) vw_3521 vy_3521 (fun i => vm_hc vx_3521_0 rfl (fun h => absurd h (Nat.not_lt_zero _))) _ List.mem_cons_self
noncomputable def vp_3522 : List vm_R := [(some (.inl (.negSucc 0, .negSucc 0)), va_h0)]
noncomputable def ve_3522 : List vm_E := [([.inr (.inr (some 8)), .inl (.negSucc 2147483647, .negSucc 0), .inl (.ofNat 0, .ofNat 2), .inl (.ofNat 0, .ofNat 40)], va_h0, 0, [0])]
noncomputable def q_3522 : vm_Q := (130, [.inr (.inr (some 8)), .inl (.negSucc 2147483647, .negSucc 0), .inl (.ofNat 0, .ofNat 2), .inl (.ofNat 0, .ofNat 40)], va_h0, vp_3522)
noncomputable def vk_3522 : List vm_U := [(q_297, true, [])]
noncomputable def vf_3522 : List ((Nat → am_I) → vm_A) := [fun v => (0, [(0, .inr (.inr (some 8))), (1, .inl (.negSucc 2147483647, .negSucc 0)), (2, .inl (.ofNat 0, .ofNat 2)), (3, .inl (.ofNat 0, .ofNat 40))], [], (80, []))]
noncomputable def vd_3522_0_0 : List (List Nat) := [[0]]
noncomputable def vd_3522_0 : List (List (List Nat)) := [vd_3522_0_0]
noncomputable def vd_3522 : List (List (List (List Nat))) := [vd_3522_0]
noncomputable def vt_3522 : List (List am_I) := []
noncomputable def vc_3522 : vm_C := (fun _ => vp_3522, fun pc => (match Nat.beq pc 0 with
  | true => [(fun _ _ => some (.inl 1), fun _ _ => some [.ofNat 0, .ofNat 1, .ofNat 2, .ofNat 3, .ofNat 4])]
  | false => []), [], 1, vm_inst 8 1 vt_3522 vf_3522 vd_3522)
theorem vx_3522_0 : vm_chk bt_130 [] vk_3522 7 vc_3522 0 1 = true := by decide +kernel
theorem vy_3522 : vm_ents 130 7 vc_3522 ve_3522 = true := by decide +kernel
theorem vw_3522 : ∀ q ∈ vk_3522, vm_wt 2 q := vm_wts (vm_kc (vm_up v_297 rfl) vm_kn) (by decide +kernel)
theorem v_3522 : vm_at 3 q_3522 := vm_ok (inl := []) (es := ve_3522) bq_130 (by decide) vw_3522 vy_3522 (fun i => vm_hc vx_3522_0 rfl (fun h => absurd h (Nat.not_lt_zero _))) _ List.mem_cons_self
noncomputable def vp_3523 : List vm_R := [(some (.inl (.negSucc 0, .negSucc 0)), va_h0)]
noncomputable def ve_3523 : List vm_E := [([.inr (.inr (some 70)), .inl (.negSucc 2147483647, .negSucc 0), .inl (.ofNat 0, .ofNat 2), .inl (.ofNat 0, .ofNat 40)], va_h0, 0, [0])]
noncomputable def q_3523 : vm_Q := (219, [.inr (.inr (some 70)), .inl (.negSucc 2147483647, .negSucc 0), .inl (.ofNat 0, .ofNat 2), .inl (.ofNat 0, .ofNat 40)], va_h0, vp_3523)
noncomputable def vk_3523 : List vm_U := [(q_3520, true, [])]
noncomputable def vf_3523 : List ((Nat → am_I) → vm_A) := [fun v => (0, [(0, .inr (.inr (some 70))), (1, .inl (.negSucc 2147483647, .negSucc 0)), (2, .inl (.ofNat 0, .ofNat 2)), (3, .inl (.ofNat 0, .ofNat 40))], [], (80, []))]
noncomputable def vd_3523_0_0 : List (List Nat) := [[0]]
noncomputable def vd_3523_0 : List (List (List Nat)) := [vd_3523_0_0]
noncomputable def vd_3523 : List (List (List (List Nat))) := [vd_3523_0]
noncomputable def vt_3523 : List (List am_I) := []
noncomputable def vc_3523 : vm_C := (fun _ => vp_3523, fun pc => (match Nat.beq pc 0 with
  | true => [(fun _ _ => some (.inl 1), fun _ _ => some [.ofNat 0, .ofNat 1, .ofNat 2, .ofNat 3, .ofNat 4])]
  | false => []), [40], 1, vm_inst 8 1 vt_3523 vf_3523 vd_3523)
theorem vx_3523_0 : vm_chk bt_219 [] vk_3523 8 vc_3523 0 1 = true := by decide +kernel
theorem vy_3523 : vm_ents 219 8 vc_3523 ve_3523 = true := by decide +kernel
theorem vw_3523 : ∀ q ∈ vk_3523, vm_wt 3 q := vm_wts (vm_kc (vm_up v_3520 rfl) vm_kn) (by decide +kernel)
theorem v_3523 : vm_at 4 q_3523 := vm_ok (inl := []) (es := ve_3523) bq_219 (by decide) vw_3523 vy_3523 (fun i => vm_hc vx_3523_0 rfl (fun h => absurd h (Nat.not_lt_zero _))) _ List.mem_cons_self
noncomputable def vp_3524 : List vm_R := [(some (.inl (.negSucc 0, .negSucc 0)), va_h0)]
noncomputable def ve_3524 : List vm_E := [([.inr (.inr (some 8)), .inl (.negSucc 2147483647, .negSucc 0), .inl (.ofNat 0, .ofNat 2), .inl (.ofNat 41, .ofNat 2147483647)], va_h0, 0, [0])]
noncomputable def q_3524 : vm_Q := (130, [.inr (.inr (some 8)), .inl (.negSucc 2147483647, .negSucc 0), .inl (.ofNat 0, .ofNat 2), .inl (.ofNat 41, .ofNat 2147483647)], va_h0, vp_3524)
noncomputable def vk_3524 : List vm_U := [(q_297, true, [])]
noncomputable def vf_3524 : List ((Nat → am_I) → vm_A) := [fun v => (0, [(0, .inr (.inr (some 8))), (1, .inl (.negSucc 2147483647, .negSucc 0)), (2, .inl (.ofNat 0, .ofNat 2)), (3, .inl (.ofNat 41, .ofNat 2147483647))], [], (80, []))]
noncomputable def vd_3524_0_0 : List (List Nat) := [[0]]
noncomputable def vd_3524_0 : List (List (List Nat)) := [vd_3524_0_0]
noncomputable def vd_3524 : List (List (List (List Nat))) := [vd_3524_0]
noncomputable def vt_3524 : List (List am_I) := []
noncomputable def vc_3524 : vm_C := (fun _ => vp_3524, fun pc => (match Nat.beq pc 0 with
  | true => [(fun _ _ => some (.inl 1), fun _ _ => some [.ofNat 0, .ofNat 1, .ofNat 2, .ofNat 3, .ofNat 4])]
  | false => []), [], 1, vm_inst 8 1 vt_3524 vf_3524 vd_3524)
theorem vx_3524_0 : vm_chk bt_130 [] vk_3524 7 vc_3524 0 1 = true := by decide +kernel
theorem vy_3524 : vm_ents 130 7 vc_3524 ve_3524 = true := by decide +kernel
theorem vw_3524 : ∀ q ∈ vk_3524, vm_wt 2 q := vm_wts (vm_kc (vm_up v_297 rfl) vm_kn) (by decide +kernel)
theorem v_3524 : vm_at 3 q_3524 := vm_ok (inl := []) (es := ve_3524) bq_130 (by decide) vw_3524 vy_3524 (fun i => vm_hc vx_3524_0 rfl (fun h => absurd h (Nat.not_lt_zero _))) _ List.mem_cons_self
noncomputable def vp_3525 : List vm_R := [(some (.inl (.negSucc 0, .negSucc 0)), va_h0)]
noncomputable def ve_3525 : List vm_E := [([.inr (.inr (some 70)), .inl (.negSucc 2147483647, .negSucc 0), .inl (.ofNat 0, .ofNat 2), .inl (.ofNat 41, .ofNat 2147483647)], va_h0, 0, [0])]
noncomputable def q_3525 : vm_Q := (219, [.inr (.inr (some 70)), .inl (.negSucc 2147483647, .negSucc 0), .inl (.ofNat 0, .ofNat 2), .inl (.ofNat 41, .ofNat 2147483647)], va_h0, vp_3525)
noncomputable def vk_3525 : List vm_U := [(q_3520, true, [])]
noncomputable def vf_3525 : List ((Nat → am_I) → vm_A) := [fun v => (0, [(0, .inr (.inr (some 70))), (1, .inl (.negSucc 2147483647, .negSucc 0)), (2, .inl (.ofNat 0, .ofNat 2)), (3, .inl (.ofNat 41, .ofNat 2147483647))], [], (80, []))]
noncomputable def vd_3525_0_0 : List (List Nat) := [[0]]
noncomputable def vd_3525_0 : List (List (List Nat)) := [vd_3525_0_0]
noncomputable def vd_3525 : List (List (List (List Nat))) := [vd_3525_0]
noncomputable def vt_3525 : List (List am_I) := []
noncomputable def vc_3525 : vm_C := (fun _ => vp_3525, fun pc => (match Nat.beq pc 0 with
  | true => [(fun _ _ => some (.inl 1), fun _ _ => some [.ofNat 0, .ofNat 1, .ofNat 2, .ofNat 3, .ofNat 4])]
  | false => []), [40], 1, vm_inst 8 1 vt_3525 vf_3525 vd_3525)
theorem vx_3525_0 : vm_chk bt_219 [] vk_3525 8 vc_3525 0 1 = true := by decide +kernel
theorem vy_3525 : vm_ents 219 8 vc_3525 ve_3525 = true := by decide +kernel
theorem vw_3525 : ∀ q ∈ vk_3525, vm_wt 3 q := vm_wts (vm_kc (vm_up v_3520 rfl) vm_kn) (by decide +kernel)
theorem v_3525 : vm_at 4 q_3525 := vm_ok (inl := []) (es := ve_3525) bq_219 (by decide) vw_3525 vy_3525 (fun i => vm_hc vx_3525_0 rfl (fun h => absurd h (Nat.not_lt_zero _))) _ List.mem_cons_self
noncomputable def vp_3526 : List vm_R := [(some (.inl (.negSucc 0, .negSucc 0)), va_h0)]
noncomputable def ve_3526 : List vm_E := [([.inr (.inr (some 8)), .inl (.negSucc 2147483647, .negSucc 0), .inl (.ofNat 3, .ofNat 2147483647), .inl (.negSucc 2147483647, .negSucc 0)], va_h0, 0, [0])]
noncomputable def q_3526 : vm_Q := (130, [.inr (.inr (some 8)), .inl (.negSucc 2147483647, .negSucc 0), .inl (.ofNat 3, .ofNat 2147483647), .inl (.negSucc 2147483647, .negSucc 0)], va_h0, vp_3526)
noncomputable def vk_3526 : List vm_U := [(q_297, true, [])]
noncomputable def vf_3526 : List ((Nat → am_I) → vm_A) := [fun v => (0, [(0, .inr (.inr (some 8))), (1, .inl (.negSucc 2147483647, .negSucc 0)), (2, .inl (.ofNat 3, .ofNat 2147483647)), (3, .inl (.negSucc 2147483647, .negSucc 0))], [], (80, []))]
noncomputable def vd_3526_0_0 : List (List Nat) := [[0]]
noncomputable def vd_3526_0 : List (List (List Nat)) := [vd_3526_0_0]
noncomputable def vd_3526 : List (List (List (List Nat))) := [vd_3526_0]
noncomputable def vt_3526 : List (List am_I) := []
noncomputable def vc_3526 : vm_C := (fun _ => vp_3526, fun pc => (match Nat.beq pc 0 with
  | true => [(fun _ _ => some (.inl 1), fun _ _ => some [.ofNat 0, .ofNat 1, .ofNat 2, .ofNat 3, .ofNat 4])]
  | false => []), [], 1, vm_inst 8 1 vt_3526 vf_3526 vd_3526)
theorem vx_3526_0 : vm_chk bt_130 [] vk_3526 7 vc_3526 0 1 = true := by decide +kernel
theorem vy_3526 : vm_ents 130 7 vc_3526 ve_3526 = true := by decide +kernel
theorem vw_3526 : ∀ q ∈ vk_3526, vm_wt 2 q := vm_wts (vm_kc (vm_up v_297 rfl) vm_kn) (by decide +kernel)
theorem v_3526 : vm_at 3 q_3526 := vm_ok (inl := []) (es := ve_3526) bq_130 (by decide) vw_3526 vy_3526 (fun i => vm_hc vx_3526_0 rfl (fun h => absurd h (Nat.not_lt_zero _))) _ List.mem_cons_self
noncomputable def vp_3527 : List vm_R := [(some (.inl (.ofNat 0, .ofNat 0)), va_h0)]
noncomputable def ve_3527 : List vm_E := [([.inl (.negSucc 2147483647, .negSucc 0), .inl (.ofNat 3, .ofNat 2147483647)], va_h0, 0, [0])]
noncomputable def q_3527 : vm_Q := (220, [.inl (.negSucc 2147483647, .negSucc 0), .inl (.ofNat 3, .ofNat 2147483647)], va_h0, vp_3527)
noncomputable def vk_3527 : List vm_U := [(q_571, true, [])]
noncomputable def vf_3527 : List ((Nat → am_I) → vm_A) := [fun v => (0, [(0, .inl (.negSucc 2147483647, .negSucc 0)), (1, .inl (.ofNat 3, .ofNat 2147483647))], [], (80, []))]
noncomputable def vd_3527_0_0 : List (List Nat) := [[0]]
noncomputable def vd_3527_0 : List (List (List Nat)) := [vd_3527_0_0]
noncomputable def vd_3527 : List (List (List (List Nat))) := [vd_3527_0]
noncomputable def vt_3527 : List (List am_I) := []
noncomputable def vc_3527 : vm_C := (fun _ => vp_3527, fun pc => [], [], 1, vm_inst 8 1 vt_3527 vf_3527 vd_3527)
theorem vx_3527_0 : vm_chk bt_220 [] vk_3527 10 vc_3527 0 1 = true := by decide +kernel
theorem vy_3527 : vm_ents 220 10 vc_3527 ve_3527 = true := by decide +kernel
theorem vw_3527 : ∀ q ∈ vk_3527, vm_wt 2 q := vm_wts (vm_kc (vm_up v_571 rfl) vm_kn) (by decide +kernel)
theorem v_3527 : vm_at 3 q_3527 := vm_ok (inl := []) (es := ve_3527) bq_220 (by decide) vw_3527 vy_3527 (fun i => vm_hc vx_3527_0 rfl (fun h => absurd h (Nat.not_lt_zero _))) _ List.mem_cons_self
noncomputable def vp_3528 : List vm_R := [(some (.inl (.negSucc 0, .negSucc 0)), va_h0)]
noncomputable def ve_3528 : List vm_E := [([.inr (.inr (some 70)), .inl (.negSucc 2147483647, .negSucc 0), .inl (.ofNat 3, .ofNat 2147483647), .inl (.negSucc 2147483647, .negSucc 0)], va_h0, 0, [0])]
noncomputable def q_3528 : vm_Q := (219, [.inr (.inr (some 70)), .inl (.negSucc 2147483647, .negSucc 0), .inl (.ofNat 3, .ofNat 2147483647), .inl (.negSucc 2147483647, .negSucc 0)], va_h0, vp_3528)
noncomputable def vk_3528 : List vm_U := [(q_3527, true, [])]
noncomputable def vf_3528 : List ((Nat → am_I) → vm_A) := [fun v => (0, [(0, .inr (.inr (some 70))), (1, .inl (.negSucc 2147483647, .negSucc 0)), (2, .inl (.ofNat 3, .ofNat 2147483647)), (3, .inl (.negSucc 2147483647, .negSucc 0))], [], (80, []))]
noncomputable def vd_3528_0_0 : List (List Nat) := [[0]]
noncomputable def vd_3528_0 : List (List (List Nat)) := [vd_3528_0_0]
noncomputable def vd_3528 : List (List (List (List Nat))) := [vd_3528_0]
noncomputable def vt_3528 : List (List am_I) := []
noncomputable def vc_3528 : vm_C := (fun _ => vp_3528, fun pc => (match Nat.beq pc 0 with
  | true => [(fun _ _ => some (.inl 1), fun _ _ => some [.ofNat 0, .ofNat 1, .ofNat 2, .ofNat 3, .ofNat 4])]
  | false => []), [40], 1, vm_inst 8 1 vt_3528 vf_3528 vd_3528)
theorem vx_3528_0 : vm_chk bt_219 [] vk_3528 8 vc_3528 0 1 = true := by decide +kernel
theorem vy_3528 : vm_ents 219 8 vc_3528 ve_3528 = true := by decide +kernel
theorem vw_3528 : ∀ q ∈ vk_3528, vm_wt 3 q := vm_wts (vm_kc (vm_up v_3527 rfl) vm_kn) (by decide +kernel)
theorem v_3528 : vm_at 4 q_3528 := vm_ok (inl := []) (es := ve_3528) bq_219 (by decide) vw_3528 vy_3528 (fun i => vm_hc vx_3528_0 rfl (fun h => absurd h (Nat.not_lt_zero _))) _ List.mem_cons_self
noncomputable def vp_3529 : List vm_R := [(some (.inl (.negSucc 0, .negSucc 0)), va_h0)]
noncomputable def ve_3529 : List vm_E := [([.inr (.inr (some 8)), .inl (.negSucc 2147483647, .negSucc 0), .inl (.ofNat 3, .ofNat 2147483647), .inl (.ofNat 0, .ofNat 40)], va_h0, 0, [0])]
noncomputable def q_3529 : vm_Q := (130, [.inr (.inr (some 8)), .inl (.negSucc 2147483647, .negSucc 0), .inl (.ofNat 3, .ofNat 2147483647), .inl (.ofNat 0, .ofNat 40)], va_h0, vp_3529)
noncomputable def vk_3529 : List vm_U := [(q_297, true, [])]
noncomputable def vf_3529 : List ((Nat → am_I) → vm_A) := [fun v => (0, [(0, .inr (.inr (some 8))), (1, .inl (.negSucc 2147483647, .negSucc 0)), (2, .inl (.ofNat 3, .ofNat 2147483647)), (3, .inl (.ofNat 0, .ofNat 40))], [], (80, []))]
noncomputable def vd_3529_0_0 : List (List Nat) := [[0]]
noncomputable def vd_3529_0 : List (List (List Nat)) := [vd_3529_0_0]
noncomputable def vd_3529 : List (List (List (List Nat))) := [vd_3529_0]
noncomputable def vt_3529 : List (List am_I) := []
noncomputable def vc_3529 : vm_C := (fun _ => vp_3529, fun pc => (match Nat.beq pc 0 with
  | true => [(fun _ _ => some (.inl 1), fun _ _ => some [.ofNat 0, .ofNat 1, .ofNat 2, .ofNat 3, .ofNat 4])]
  | false => []), [], 1, vm_inst 8 1 vt_3529 vf_3529 vd_3529)
theorem vx_3529_0 : vm_chk bt_130 [] vk_3529 7 vc_3529 0 1 = true := by decide +kernel
theorem vy_3529 : vm_ents 130 7 vc_3529 ve_3529 = true := by decide +kernel
theorem vw_3529 : ∀ q ∈ vk_3529, vm_wt 2 q := vm_wts (vm_kc (vm_up v_297 rfl) vm_kn) (by decide +kernel)
theorem v_3529 : vm_at 3 q_3529 := vm_ok (inl := []) (es := ve_3529) bq_130 (by decide) vw_3529 vy_3529 (fun i => vm_hc vx_3529_0 rfl (fun h => absurd h (Nat.not_lt_zero _))) _ List.mem_cons_self
noncomputable def vp_3530 : List vm_R := [(some (.inl (.negSucc 0, .negSucc 0)), va_h0)]
noncomputable def ve_3530 : List vm_E := [([.inr (.inr (some 70)), .inl (.negSucc 2147483647, .negSucc 0), .inl (.ofNat 3, .ofNat 2147483647), .inl (.ofNat 0, .ofNat 40)], va_h0, 0, [0])]
noncomputable def q_3530 : vm_Q := (219, [.inr (.inr (some 70)), .inl (.negSucc 2147483647, .negSucc 0), .inl (.ofNat 3, .ofNat 2147483647), .inl (.ofNat 0, .ofNat 40)], va_h0, vp_3530)
noncomputable def vk_3530 : List vm_U := [(q_3527, true, [])]
noncomputable def vf_3530 : List ((Nat → am_I) → vm_A) := [fun v => (0, [(0, .inr (.inr (some 70))), (1, .inl (.negSucc 2147483647, .negSucc 0)), (2, .inl (.ofNat 3, .ofNat 2147483647)), (3, .inl (.ofNat 0, .ofNat 40))], [], (80, []))]
noncomputable def vd_3530_0_0 : List (List Nat) := [[0]]
noncomputable def vd_3530_0 : List (List (List Nat)) := [vd_3530_0_0]
noncomputable def vd_3530 : List (List (List (List Nat))) := [vd_3530_0]
noncomputable def vt_3530 : List (List am_I) := []
noncomputable def vc_3530 : vm_C := (fun _ => vp_3530, fun pc => (match Nat.beq pc 0 with
  | true => [(fun _ _ => some (.inl 1), fun _ _ => some [.ofNat 0, .ofNat 1, .ofNat 2, .ofNat 3, .ofNat 4])]
  | false => []), [40], 1, vm_inst 8 1 vt_3530 vf_3530 vd_3530)
theorem vx_3530_0 : vm_chk bt_219 [] vk_3530 8 vc_3530 0 1 = true := by decide +kernel
theorem vy_3530 : vm_ents 219 8 vc_3530 ve_3530 = true := by decide +kernel
theorem vw_3530 : ∀ q ∈ vk_3530, vm_wt 3 q := vm_wts (vm_kc (vm_up v_3527 rfl) vm_kn) (by decide +kernel)
theorem v_3530 : vm_at 4 q_3530 := vm_ok (inl := []) (es := ve_3530) bq_219 (by decide) vw_3530 vy_3530 (fun i => vm_hc vx_3530_0 rfl (fun h => absurd h (Nat.not_lt_zero _))) _ List.mem_cons_self
noncomputable def vp_3531 : List vm_R := [(some (.inl (.negSucc 0, .negSucc 0)), va_h0)]
noncomputable def ve_3531 : List vm_E := [([.inr (.inr (some 8)), .inl (.negSucc 2147483647, .negSucc 0), .inl (.ofNat 3, .ofNat 2147483647), .inl (.ofNat 41, .ofNat 2147483647)], va_h0, 0, [0])]
noncomputable def q_3531 : vm_Q := (130, [.inr (.inr (some 8)), .inl (.negSucc 2147483647, .negSucc 0), .inl (.ofNat 3, .ofNat 2147483647), .inl (.ofNat 41, .ofNat 2147483647)], va_h0, vp_3531)
noncomputable def vk_3531 : List vm_U := [(q_297, true, [])]
noncomputable def vf_3531 : List ((Nat → am_I) → vm_A) := [fun v => (0, [(0, .inr (.inr (some 8))), (1, .inl (.negSucc 2147483647, .negSucc 0)), (2, .inl (.ofNat 3, .ofNat 2147483647)), (3, .inl (.ofNat 41, .ofNat 2147483647))], [], (80, []))]
noncomputable def vd_3531_0_0 : List (List Nat) := [[0]]
noncomputable def vd_3531_0 : List (List (List Nat)) := [vd_3531_0_0]
noncomputable def vd_3531 : List (List (List (List Nat))) := [vd_3531_0]
noncomputable def vt_3531 : List (List am_I) := []
noncomputable def vc_3531 : vm_C := (fun _ => vp_3531, fun pc => (match Nat.beq pc 0 with
  | true => [(fun _ _ => some (.inl 1), fun _ _ => some [.ofNat 0, .ofNat 1, .ofNat 2, .ofNat 3, .ofNat 4])]
  | false => []), [], 1, vm_inst 8 1 vt_3531 vf_3531 vd_3531)
theorem vx_3531_0 : vm_chk bt_130 [] vk_3531 7 vc_3531 0 1 = true := by decide +kernel
theorem vy_3531 : vm_ents 130 7 vc_3531 ve_3531 = true := by decide +kernel
theorem vw_3531 : ∀ q ∈ vk_3531, vm_wt 2 q := vm_wts (vm_kc (vm_up v_297 rfl) vm_kn) (by decide +kernel)
theorem v_3531 : vm_at 3 q_3531 := vm_ok (inl := []) (es := ve_3531) bq_130 (by decide) vw_3531 vy_3531 (fun i => vm_hc vx_3531_0 rfl (fun h => absurd h (Nat.not_lt_zero _))) _ List.mem_cons_self
noncomputable def vp_3532 : List vm_R := [(some (.inl (.negSucc 0, .negSucc 0)), va_h0)]
noncomputable def ve_3532 : List vm_E := [([.inr (.inr (some 70)), .inl (.negSucc 2147483647, .negSucc 0), .inl (.ofNat 3, .ofNat 2147483647), .inl (.ofNat 41, .ofNat 2147483647)], va_h0, 0, [0])]
noncomputable def q_3532 : vm_Q := (219, [.inr (.inr (some 70)), .inl (.negSucc 2147483647, .negSucc 0), .inl (.ofNat 3, .ofNat 2147483647), .inl (.ofNat 41, .ofNat 2147483647)], va_h0, vp_3532)
noncomputable def vk_3532 : List vm_U := [(q_3527, true, [])]
noncomputable def vf_3532 : List ((Nat → am_I) → vm_A) := [fun v => (0, [(0, .inr (.inr (some 70))), (1, .inl (.negSucc 2147483647, .negSucc 0)), (2, .inl (.ofNat 3, .ofNat 2147483647)), (3, .inl (.ofNat 41, .ofNat 2147483647))], [], (80, []))]
noncomputable def vd_3532_0_0 : List (List Nat) := [[0]]
noncomputable def vd_3532_0 : List (List (List Nat)) := [vd_3532_0_0]
noncomputable def vd_3532 : List (List (List (List Nat))) := [vd_3532_0]
noncomputable def vt_3532 : List (List am_I) := []
noncomputable def vc_3532 : vm_C := (fun _ => vp_3532, fun pc => (match Nat.beq pc 0 with
  | true => [(fun _ _ => some (.inl 1), fun _ _ => some [.ofNat 0, .ofNat 1, .ofNat 2, .ofNat 3, .ofNat 4])]
  | false => []), [40], 1, vm_inst 8 1 vt_3532 vf_3532 vd_3532)
theorem vx_3532_0 : vm_chk bt_219 [] vk_3532 8 vc_3532 0 1 = true := by decide +kernel
theorem vy_3532 : vm_ents 219 8 vc_3532 ve_3532 = true := by decide +kernel
theorem vw_3532 : ∀ q ∈ vk_3532, vm_wt 3 q := vm_wts (vm_kc (vm_up v_3527 rfl) vm_kn) (by decide +kernel)
theorem v_3532 : vm_at 4 q_3532 := vm_ok (inl := []) (es := ve_3532) bq_219 (by decide) vw_3532 vy_3532 (fun i => vm_hc vx_3532_0 rfl (fun h => absurd h (Nat.not_lt_zero _))) _ List.mem_cons_self
noncomputable def vp_3533 : List vm_R := [(some (.inl (.ofNat 0, .ofNat 0)), va_h0)]
noncomputable def ve_3533 : List vm_E := [([.inl (.negSucc 2147483647, .negSucc 0)], va_h0, 0, [0])]
noncomputable def q_3533 : vm_Q := (132, [.inl (.negSucc 2147483647, .negSucc 0)], va_h0, vp_3533)
noncomputable def vk_3533 : List vm_U := []
noncomputable def vf_3533 : List ((Nat → am_I) → vm_A) := [fun v => (0, [(0, .inl (.negSucc 2147483647, .negSucc 0))], [], (80, []))]
noncomputable def vd_3533_0_0 : List (List Nat) := [[0]]
noncomputable def vd_3533_0 : List (List (List Nat)) := [vd_3533_0_0]
noncomputable def vd_3533 : List (List (List (List Nat))) := [vd_3533_0]
noncomputable def vt_3533 : List (List am_I) := []
noncomputable def vc_3533 : vm_C := (fun _ => vp_3533, fun pc => [], [], 1, vm_inst 8 1 vt_3533 vf_3533 vd_3533)
theorem vx_3533_0 : vm_chk bt_132 [] vk_3533 6 vc_3533 0 1 = true := by decide +kernel
theorem vy_3533 : vm_ents 132 6 vc_3533 ve_3533 = true := by decide +kernel
theorem vw_3533 : ∀ q ∈ vk_3533, vm_wt 1 q := vm_wts vm_kn (by decide +kernel)
theorem v_3533 : vm_at 2 q_3533 := vm_ok (inl := []) (es := ve_3533) bq_132 (by decide) vw_3533 vy_3533 (fun i => vm_hc vx_3533_0 rfl (fun h => absurd h (Nat.not_lt_zero _))) _ List.mem_cons_self
noncomputable def vp_3534 : List vm_R := [(some (.inl (.negSucc 0, .negSucc 0)), va_h0)]
noncomputable def ve_3534 : List vm_E := [([.inr (.inr (some 8)), .inl (.ofNat 0, .ofNat 3), .inl (.negSucc 2147483647, .negSucc 0), .inl (.negSucc 2147483647, .negSucc 0)], va_h0, 0, [0, 1, 2, 3])]
noncomputable def q_3534 : vm_Q := (130, [.inr (.inr (some 8)), .inl (.ofNat 0, .ofNat 3), .inl (.negSucc 2147483647, .negSucc 0), .inl (.negSucc 2147483647, .negSucc 0)], va_h0, vp_3534)
noncomputable def vk_3534 : List vm_U := [(q_298, true, []), (q_300, true, []), (q_301, true, []), (q_302, true, []), (q_3533, true, [])]
noncomputable def vf_3534 : List ((Nat → am_I) → vm_A) := [fun v => (0, [(0, .inr (.inr (some 8))), (1, .inl (v 0)), (2, .inl (.negSucc 2147483647, .negSucc 0)), (3, .inl (.negSucc 2147483647, .negSucc 0))], [], (80, []))]
noncomputable def vd_3534_0_0 : List (List Nat) := [[50331648, 33554432, 16777216, 0]]
noncomputable def vd_3534_0 : List (List (List Nat)) := [vd_3534_0_0]
noncomputable def vd_3534 : List (List (List (List Nat))) := [vd_3534_0]
noncomputable def vt_3534 : List (List am_I) := []
noncomputable def vc_3534 : vm_C := (fun _ => vp_3534, fun pc => (match Nat.beq pc 0 with
  | true => [(fun _ _ => some (.inl 1), fun _ _ => some [.ofNat 0, .ofNat 1, .ofNat 2, .ofNat 3, .ofNat 4])]
  | false => []), [], 4, vm_inst 8 4 vt_3534 vf_3534 vd_3534)
theorem vx_3534_0 : vm_chk bt_130 [] vk_3534 10 vc_3534 0 4 = true := by decide +kernel
theorem vy_3534 : vm_ents 130 10 vc_3534 ve_3534 = true := by decide +kernel
theorem vw_3534 : ∀ q ∈ vk_3534, vm_wt 2 q := vm_wts (vm_kc (vm_up v_298 rfl) (vm_kc (vm_up v_300 rfl) (vm_kc (vm_up v_301 rfl) (vm_kc (vm_up v_302 rfl) (vm_kc (vm_up v_3533 rfl) vm_kn))))) (by decide +kernel)
theorem v_3534 : vm_at 3 q_3534 := vm_ok (inl := []) (es := ve_3534) bq_130 (by decide) vw_3534 vy_3534 (fun i => vm_hc vx_3534_0 rfl (fun h => absurd h (Nat.not_lt_zero _))) _ List.mem_cons_self
noncomputable def vp_3535 : List vm_R := [(some (.inl (.ofNat 0, .ofNat 0)), va_h0)]
noncomputable def ve_3535 : List vm_E := [([.inr (.inl (.negSucc 2147483647, .negSucc 0)), .inr (.inl (.ofNat 0, .ofNat 0)), .inr (.inl (.ofNat 2, .ofNat 2))], va_h0, 0, [0])]
noncomputable def q_3535 : vm_Q := (149, [.inr (.inl (.negSucc 2147483647, .negSucc 0)), .inr (.inl (.ofNat 0, .ofNat 0)), .inr (.inl (.ofNat 2, .ofNat 2))], va_h0, vp_3535)
noncomputable def vk_3535 : List vm_U := []
noncomputable def vf_3535 : List ((Nat → am_I) → vm_A) := [fun v => (0, [(0, .inr (.inl (.negSucc 2147483647, .negSucc 0))), (2, .inr (.inl (.ofNat 0, .ofNat 0))), (4, .inr (.inl (.ofNat 2, .ofNat 2)))], [], (80, []))]
noncomputable def vd_3535_0_0 : List (List Nat) := [[0]]
noncomputable def vd_3535_0 : List (List (List Nat)) := [vd_3535_0_0]
noncomputable def vd_3535 : List (List (List (List Nat))) := [vd_3535_0]
noncomputable def vt_3535 : List (List am_I) := []
noncomputable def vc_3535 : vm_C := (fun _ => vp_3535, fun pc => [], [], 1, vm_inst 8 1 vt_3535 vf_3535 vd_3535)
theorem vx_3535_0 : vm_chk bt_149 [] vk_3535 8 vc_3535 0 1 = true := by decide +kernel
theorem vy_3535 : vm_ents 149 8 vc_3535 ve_3535 = true := by decide +kernel
theorem vw_3535 : ∀ q ∈ vk_3535, vm_wt 1 q := vm_wts vm_kn (by decide +kernel)
theorem v_3535 : vm_at 2 q_3535 := vm_ok (inl := []) (es := ve_3535) bq_149 (by decide) vw_3535 vy_3535 (fun i => vm_hc vx_3535_0 rfl (fun h => absurd h (Nat.not_lt_zero _))) _ List.mem_cons_self
noncomputable def vp_3536 : List vm_R := [(some (.inl (.ofNat 0, .ofNat 0)), va_h0)]
noncomputable def ve_3536 : List vm_E := [([.inl (.ofNat 0, .ofNat 0), .inl (.negSucc 2147483647, .negSucc 0)], va_h0, 0, [0])]
noncomputable def q_3536 : vm_Q := (220, [.inl (.ofNat 0, .ofNat 0), .inl (.negSucc 2147483647, .negSucc 0)], va_h0, vp_3536)
noncomputable def vk_3536 : List vm_U := [(q_572, true, []), (q_3535, true, [])]
noncomputable def vf_3536 : List ((Nat → am_I) → vm_A) := [fun v => (0, [(0, .inl (.ofNat 0, .ofNat 0)), (1, .inl (.negSucc 2147483647, .negSucc 0))], [], (80, []))]
noncomputable def vd_3536_0_0 : List (List Nat) := [[0]]
noncomputable def vd_3536_0 : List (List (List Nat)) := [vd_3536_0_0]
noncomputable def vd_3536 : List (List (List (List Nat))) := [vd_3536_0]
noncomputable def vt_3536 : List (List am_I) := []
noncomputable def vc_3536 : vm_C := (fun _ => vp_3536, fun pc => [], [], 1, vm_inst 8 1 vt_3536 vf_3536 vd_3536)
theorem vx_3536_0 : vm_chk bt_220 [] vk_3536 16 vc_3536 0 1 = true := by decide +kernel
theorem vy_3536 : vm_ents 220 16 vc_3536 ve_3536 = true := by decide +kernel
theorem vw_3536 : ∀ q ∈ vk_3536, vm_wt 2 q := vm_wts (vm_kc (vm_up v_572 rfl) (vm_kc (vm_up v_3535 rfl) vm_kn)) (by decide +kernel)
theorem v_3536 : vm_at 3 q_3536 := vm_ok (inl := []) (es := ve_3536) bq_220 (by decide) vw_3536 vy_3536 (fun i => vm_hc vx_3536_0 rfl (fun h => absurd h (Nat.not_lt_zero _))) _ List.mem_cons_self
noncomputable def vp_3537 : List vm_R := [(some (.inl (.ofNat 0, .ofNat 0)), va_h0)]
noncomputable def ve_3537 : List vm_E := [([.inl (.ofNat 1, .ofNat 1), .inl (.negSucc 2147483647, .negSucc 0)], va_h0, 0, [0])]
noncomputable def q_3537 : vm_Q := (220, [.inl (.ofNat 1, .ofNat 1), .inl (.negSucc 2147483647, .negSucc 0)], va_h0, vp_3537)
noncomputable def vk_3537 : List vm_U := [(q_573, true, []), (q_3535, true, [])]
noncomputable def vf_3537 : List ((Nat → am_I) → vm_A) := [fun v => (0, [(0, .inl (.ofNat 1, .ofNat 1)), (1, .inl (.negSucc 2147483647, .negSucc 0))], [], (80, []))]
noncomputable def vd_3537_0_0 : List (List Nat) := [[0]]
noncomputable def vd_3537_0 : List (List (List Nat)) := [vd_3537_0_0]
noncomputable def vd_3537 : List (List (List (List Nat))) := [vd_3537_0]
noncomputable def vt_3537 : List (List am_I) := []
noncomputable def vc_3537 : vm_C := (fun _ => vp_3537, fun pc => [], [], 1, vm_inst 8 1 vt_3537 vf_3537 vd_3537)
theorem vx_3537_0 : vm_chk bt_220 [] vk_3537 16 vc_3537 0 1 = true := by decide +kernel
theorem vy_3537 : vm_ents 220 16 vc_3537 ve_3537 = true := by decide +kernel
theorem vw_3537 : ∀ q ∈ vk_3537, vm_wt 2 q := vm_wts (vm_kc (vm_up v_573 rfl) (vm_kc (vm_up v_3535 rfl) vm_kn)) (by decide +kernel)
theorem v_3537 : vm_at 3 q_3537 := vm_ok (inl := []) (es := ve_3537) bq_220 (by decide) vw_3537 vy_3537 (fun i => vm_hc vx_3537_0 rfl (fun h => absurd h (Nat.not_lt_zero _))) _ List.mem_cons_self
noncomputable def vp_3538 : List vm_R := [(some (.inl (.ofNat 0, .ofNat 0)), va_h0)]
noncomputable def ve_3538 : List vm_E := [([.inl (.ofNat 2, .ofNat 2), .inl (.negSucc 2147483647, .negSucc 0)], va_h0, 0, [0])]
noncomputable def q_3538 : vm_Q := (220, [.inl (.ofNat 2, .ofNat 2), .inl (.negSucc 2147483647, .negSucc 0)], va_h0, vp_3538)
noncomputable def vk_3538 : List vm_U := [(q_574, true, []), (q_3535, true, [])]
noncomputable def vf_3538 : List ((Nat → am_I) → vm_A) := [fun v => (0, [(0, .inl (.ofNat 2, .ofNat 2)), (1, .inl (.negSucc 2147483647, .negSucc 0))], [], (80, []))]
noncomputable def vd_3538_0_0 : List (List Nat) := [[0]]
noncomputable def vd_3538_0 : List (List (List Nat)) := [vd_3538_0_0]
noncomputable def vd_3538 : List (List (List (List Nat))) := [vd_3538_0]
noncomputable def vt_3538 : List (List am_I) := []
noncomputable def vc_3538 : vm_C := (fun _ => vp_3538, fun pc => [], [], 1, vm_inst 8 1 vt_3538 vf_3538 vd_3538)
theorem vx_3538_0 : vm_chk bt_220 [] vk_3538 16 vc_3538 0 1 = true := by decide +kernel
theorem vy_3538 : vm_ents 220 16 vc_3538 ve_3538 = true := by decide +kernel
theorem vw_3538 : ∀ q ∈ vk_3538, vm_wt 2 q := vm_wts (vm_kc (vm_up v_574 rfl) (vm_kc (vm_up v_3535 rfl) vm_kn)) (by decide +kernel)
theorem v_3538 : vm_at 3 q_3538 := vm_ok (inl := []) (es := ve_3538) bq_220 (by decide) vw_3538 vy_3538 (fun i => vm_hc vx_3538_0 rfl (fun h => absurd h (Nat.not_lt_zero _))) _ List.mem_cons_self
noncomputable def vp_3539 : List vm_R := [(some (.inl (.ofNat 0, .ofNat 0)), va_h0)]
noncomputable def ve_3539 : List vm_E := [([.inl (.ofNat 3, .ofNat 3), .inl (.negSucc 2147483647, .negSucc 0)], va_h0, 0, [0])]
noncomputable def q_3539 : vm_Q := (220, [.inl (.ofNat 3, .ofNat 3), .inl (.negSucc 2147483647, .negSucc 0)], va_h0, vp_3539)
noncomputable def vk_3539 : List vm_U := [(q_575, true, []), (q_3535, true, [])]
noncomputable def vf_3539 : List ((Nat → am_I) → vm_A) := [fun v => (0, [(0, .inl (.ofNat 3, .ofNat 3)), (1, .inl (.negSucc 2147483647, .negSucc 0))], [], (80, []))]
noncomputable def vd_3539_0_0 : List (List Nat) := [[0]]
noncomputable def vd_3539_0 : List (List (List Nat)) := [vd_3539_0_0]
noncomputable def vd_3539 : List (List (List (List Nat))) := [vd_3539_0]
noncomputable def vt_3539 : List (List am_I) := []
noncomputable def vc_3539 : vm_C := (fun _ => vp_3539, fun pc => [], [], 1, vm_inst 8 1 vt_3539 vf_3539 vd_3539)
theorem vx_3539_0 : vm_chk bt_220 [] vk_3539 16 vc_3539 0 1 = true := by decide +kernel
theorem vy_3539 : vm_ents 220 16 vc_3539 ve_3539 = true := by decide +kernel
theorem vw_3539 : ∀ q ∈ vk_3539, vm_wt 2 q := vm_wts (vm_kc (vm_up v_575 rfl) (vm_kc (vm_up v_3535 rfl) vm_kn)) (by decide +kernel)
theorem v_3539 : vm_at 3 q_3539 := vm_ok (inl := []) (es := ve_3539) bq_220 (by decide) vw_3539 vy_3539 (fun i => vm_hc vx_3539_0 rfl (fun h => absurd h (Nat.not_lt_zero _))) _ List.mem_cons_self
noncomputable def vp_3540 : List vm_R := [(some (.inl (.negSucc 0, .negSucc 0)), va_h0)]
noncomputable def ve_3540 : List vm_E := [([.inr (.inr (some 70)), .inl (.ofNat 0, .ofNat 3), .inl (.negSucc 2147483647, .negSucc 0), .inl (.negSucc 2147483647, .negSucc 0)], va_h0, 0, [0, 1, 2, 3])]
noncomputable def q_3540 : vm_Q := (219, [.inr (.inr (some 70)), .inl (.ofNat 0, .ofNat 3), .inl (.negSucc 2147483647, .negSucc 0), .inl (.negSucc 2147483647, .negSucc 0)], va_h0, vp_3540)
noncomputable def vk_3540 : List vm_U := [(q_3536, true, []), (q_3537, true, []), (q_3538, true, []), (q_3539, true, [])]
noncomputable def vf_3540 : List ((Nat → am_I) → vm_A) := [fun v => (0, [(0, .inr (.inr (some 70))), (1, .inl (v 0)), (2, .inl (.negSucc 2147483647, .negSucc 0)), (3, .inl (.negSucc 2147483647, .negSucc 0))], [], (80, []))]
noncomputable def vd_3540_0_0 : List (List Nat) := [[50331648, 33554432, 16777216, 0]]
noncomputable def vd_3540_0 : List (List (List Nat)) := [vd_3540_0_0]
noncomputable def vd_3540 : List (List (List (List Nat))) := [vd_3540_0]
noncomputable def vt_3540 : List (List am_I) := []
noncomputable def vc_3540 : vm_C := (fun _ => vp_3540, fun pc => (match Nat.beq pc 0 with
  | true => [(fun _ _ => some (.inl 1), fun _ _ => some [.ofNat 0, .ofNat 1, .ofNat 2, .ofNat 3, .ofNat 4])]
  | false => []), [40], 4, vm_inst 8 4 vt_3540 vf_3540 vd_3540)
theorem vx_3540_0 : vm_chk bt_219 [] vk_3540 8 vc_3540 0 4 = true := by decide +kernel
theorem vy_3540 : vm_ents 219 8 vc_3540 ve_3540 = true := by decide +kernel
theorem vw_3540 : ∀ q ∈ vk_3540, vm_wt 3 q := vm_wts (vm_kc (vm_up v_3536 rfl) (vm_kc (vm_up v_3537 rfl) (vm_kc (vm_up v_3538 rfl) (vm_kc (vm_up v_3539 rfl) vm_kn)))) (by decide +kernel)
theorem v_3540 : vm_at 4 q_3540 := vm_ok (inl := []) (es := ve_3540) bq_219 (by decide) vw_3540 vy_3540 (fun i => vm_hc vx_3540_0 rfl (fun h => absurd h (Nat.not_lt_zero _))) _ List.mem_cons_self
noncomputable def vp_3541 : List vm_R := [(some (.inl (.negSucc 0, .negSucc 0)), va_h0)]
noncomputable def ve_3541 : List vm_E := [([.inr (.inr (some 8)), .inl (.ofNat 0, .ofNat 3), .inl (.negSucc 2147483647, .negSucc 0), .inl (.ofNat 0, .ofNat 40)], va_h0, 0, [0, 1, 2, 3])]
noncomputable def q_3541 : vm_Q := (130, [.inr (.inr (some 8)), .inl (.ofNat 0, .ofNat 3), .inl (.negSucc 2147483647, .negSucc 0), .inl (.ofNat 0, .ofNat 40)], va_h0, vp_3541)
noncomputable def vk_3541 : List vm_U := [(q_298, true, []), (q_300, true, []), (q_301, true, []), (q_302, true, []), (q_3533, true, [])]
noncomputable def vf_3541 : List ((Nat → am_I) → vm_A) := [fun v => (0, [(0, .inr (.inr (some 8))), (1, .inl (v 0)), (2, .inl (.negSucc 2147483647, .negSucc 0)), (3, .inl (.ofNat 0, .ofNat 40))], [], (80, []))]
noncomputable def vd_3541_0_0 : List (List Nat) := [[50331648, 33554432, 16777216, 0]]
noncomputable def vd_3541_0 : List (List (List Nat)) := [vd_3541_0_0]
noncomputable def vd_3541 : List (List (List (List Nat))) := [vd_3541_0]
noncomputable def vt_3541 : List (List am_I) := []
noncomputable def vc_3541 : vm_C := (fun _ => vp_3541, fun pc => (match Nat.beq pc 0 with
  | true => [(fun _ _ => some (.inl 1), fun _ _ => some [.ofNat 0, .ofNat 1, .ofNat 2, .ofNat 3, .ofNat 4])]
  | false => []), [], 4, vm_inst 8 4 vt_3541 vf_3541 vd_3541)
theorem vx_3541_0 : vm_chk bt_130 [] vk_3541 10 vc_3541 0 4 = true := by decide +kernel
theorem vy_3541 : vm_ents 130 10 vc_3541 ve_3541 = true := by decide +kernel
theorem vw_3541 : ∀ q ∈ vk_3541, vm_wt 2 q := vm_wts (vm_kc (vm_up v_298 rfl) (vm_kc (vm_up v_300 rfl) (vm_kc (vm_up v_301 rfl) (vm_kc (vm_up v_302 rfl) (vm_kc (vm_up v_3533 rfl) vm_kn))))) (by decide +kernel)
theorem v_3541 : vm_at 3 q_3541 := vm_ok (inl := []) (es := ve_3541) bq_130 (by decide) vw_3541 vy_3541 (fun i => vm_hc vx_3541_0 rfl (fun h => absurd h (Nat.not_lt_zero _))) _ List.mem_cons_self
noncomputable def vp_3542 : List vm_R := [(some (.inl (.negSucc 0, .negSucc 0)), va_h0)]
noncomputable def ve_3542 : List vm_E := [([.inr (.inr (some 70)), .inl (.ofNat 0, .ofNat 3), .inl (.negSucc 2147483647, .negSucc 0), .inl (.ofNat 0, .ofNat 40)], va_h0, 0, [0, 1, 2, 3])]
noncomputable def q_3542 : vm_Q := (219, [.inr (.inr (some 70)), .inl (.ofNat 0, .ofNat 3), .inl (.negSucc 2147483647, .negSucc 0), .inl (.ofNat 0, .ofNat 40)], va_h0, vp_3542)
noncomputable def vk_3542 : List vm_U := [(q_3536, true, []), (q_3537, true, []), (q_3538, true, []), (q_3539, true, [])]
noncomputable def vf_3542 : List ((Nat → am_I) → vm_A) := [fun v => (0, [(0, .inr (.inr (some 70))), (1, .inl (v 0)), (2, .inl (.negSucc 2147483647, .negSucc 0)), (3, .inl (.ofNat 0, .ofNat 40))], [], (80, []))]
noncomputable def vd_3542_0_0 : List (List Nat) := [[50331648, 33554432, 16777216, 0]]
noncomputable def vd_3542_0 : List (List (List Nat)) := [vd_3542_0_0]
noncomputable def vd_3542 : List (List (List (List Nat))) := [vd_3542_0]
noncomputable def vt_3542 : List (List am_I) := []
noncomputable def vc_3542 : vm_C := (fun _ => vp_3542, fun pc => (match Nat.beq pc 0 with
  | true => [(fun _ _ => some (.inl 1), fun _ _ => some [.ofNat 0, .ofNat 1, .ofNat 2, .ofNat 3, .ofNat 4])]
  | false => []), [40], 4, vm_inst 8 4 vt_3542 vf_3542 vd_3542)
theorem vx_3542_0 : vm_chk bt_219 [] vk_3542 8 vc_3542 0 4 = true := by decide +kernel
theorem vy_3542 : vm_ents 219 8 vc_3542 ve_3542 = true := by decide +kernel
theorem vw_3542 : ∀ q ∈ vk_3542, vm_wt 3 q := vm_wts (vm_kc (vm_up v_3536 rfl) (vm_kc (vm_up v_3537 rfl) (vm_kc (vm_up v_3538 rfl) (vm_kc (vm_up v_3539 rfl) vm_kn)))) (by decide +kernel)
theorem v_3542 : vm_at 4 q_3542 := vm_ok (inl := []) (es := ve_3542) bq_219 (by decide) vw_3542 vy_3542 (fun i => vm_hc vx_3542_0 rfl (fun h => absurd h (Nat.not_lt_zero _))) _ List.mem_cons_self
noncomputable def vp_3543 : List vm_R := [(some (.inl (.negSucc 0, .negSucc 0)), va_h0)]
noncomputable def ve_3543 : List vm_E := [([.inr (.inr (some 8)), .inl (.ofNat 0, .ofNat 3), .inl (.negSucc 2147483647, .negSucc 0), .inl (.ofNat 41, .ofNat 2147483647)], va_h0, 0, [0, 1, 2, 3])]
noncomputable def q_3543 : vm_Q := (130, [.inr (.inr (some 8)), .inl (.ofNat 0, .ofNat 3), .inl (.negSucc 2147483647, .negSucc 0), .inl (.ofNat 41, .ofNat 2147483647)], va_h0, vp_3543)
noncomputable def vk_3543 : List vm_U := [(q_298, true, []), (q_300, true, []), (q_301, true, []), (q_302, true, []), (q_3533, true, [])]
noncomputable def vf_3543 : List ((Nat → am_I) → vm_A) := [fun v => (0, [(0, .inr (.inr (some 8))), (1, .inl (v 0)), (2, .inl (.negSucc 2147483647, .negSucc 0)), (3, .inl (.ofNat 41, .ofNat 2147483647))], [], (80, []))]
noncomputable def vd_3543_0_0 : List (List Nat) := [[50331648, 33554432, 16777216, 0]]
noncomputable def vd_3543_0 : List (List (List Nat)) := [vd_3543_0_0]
noncomputable def vd_3543 : List (List (List (List Nat))) := [vd_3543_0]
noncomputable def vt_3543 : List (List am_I) := []
noncomputable def vc_3543 : vm_C := (fun _ => vp_3543, fun pc => (match Nat.beq pc 0 with
  | true => [(fun _ _ => some (.inl 1), fun _ _ => some [.ofNat 0, .ofNat 1, .ofNat 2, .ofNat 3, .ofNat 4])]
  | false => []), [], 4, vm_inst 8 4 vt_3543 vf_3543 vd_3543)
theorem vx_3543_0 : vm_chk bt_130 [] vk_3543 10 vc_3543 0 4 = true := by decide +kernel
theorem vy_3543 : vm_ents 130 10 vc_3543 ve_3543 = true := by decide +kernel
theorem vw_3543 : ∀ q ∈ vk_3543, vm_wt 2 q := vm_wts (vm_kc (vm_up v_298 rfl) (vm_kc (vm_up v_300 rfl) (vm_kc (vm_up v_301 rfl) (vm_kc (vm_up v_302 rfl) (vm_kc (vm_up v_3533 rfl) vm_kn))))) (by decide +kernel)
theorem v_3543 : vm_at 3 q_3543 := vm_ok (inl := []) (es := ve_3543) bq_130 (by decide) vw_3543 vy_3543 (fun i => vm_hc vx_3543_0 rfl (fun h => absurd h (Nat.not_lt_zero _))) _ List.mem_cons_self
noncomputable def vp_3544 : List vm_R := [(some (.inl (.negSucc 0, .negSucc 0)), va_h0)]
noncomputable def ve_3544 : List vm_E := [([.inr (.inr (some 70)), .inl (.ofNat 0, .ofNat 3), .inl (.negSucc 2147483647, .negSucc 0), .inl (.ofNat 41, .ofNat 2147483647)], va_h0, 0, [0, 1, 2, 3])]
noncomputable def q_3544 : vm_Q := (219, [.inr (.inr (some 70)), .inl (.ofNat 0, .ofNat 3), .inl (.negSucc 2147483647, .negSucc 0), .inl (.ofNat 41, .ofNat 2147483647)], va_h0, vp_3544)
noncomputable def vk_3544 : List vm_U := [(q_3536, true, []), (q_3537, true, []), (q_3538, true, []), (q_3539, true, [])]
noncomputable def vf_3544 : List ((Nat → am_I) → vm_A) := [fun v => (0, [(0, .inr (.inr (some 70))), (1, .inl (v 0)), (2, .inl (.negSucc 2147483647, .negSucc 0)), (3, .inl (.ofNat 41, .ofNat 2147483647))], [], (80, []))]
noncomputable def vd_3544_0_0 : List (List Nat) := [[50331648, 33554432, 16777216, 0]]
noncomputable def vd_3544_0 : List (List (List Nat)) := [vd_3544_0_0]
noncomputable def vd_3544 : List (List (List (List Nat))) := [vd_3544_0]
noncomputable def vt_3544 : List (List am_I) := []
noncomputable def vc_3544 : vm_C := (fun _ => vp_3544, fun pc => (match Nat.beq pc 0 with
  | true => [(fun _ _ => some (.inl 1), fun _ _ => some [.ofNat 0, .ofNat 1, .ofNat 2, .ofNat 3, .ofNat 4])]
  | false => []), [40], 4, vm_inst 8 4 vt_3544 vf_3544 vd_3544)
theorem vx_3544_0 : vm_chk bt_219 [] vk_3544 8 vc_3544 0 4 = true := by decide +kernel
theorem vy_3544 : vm_ents 219 8 vc_3544 ve_3544 = true := by decide +kernel
theorem vw_3544 : ∀ q ∈ vk_3544, vm_wt 3 q := vm_wts (vm_kc (vm_up v_3536 rfl) (vm_kc (vm_up v_3537 rfl) (vm_kc (vm_up v_3538 rfl) (vm_kc (vm_up v_3539 rfl) vm_kn)))) (by decide +kernel)
theorem v_3544 : vm_at 4 q_3544 := vm_ok (inl := []) (es := ve_3544) bq_219 (by decide) vw_3544 vy_3544 (fun i => vm_hc vx_3544_0 rfl (fun h => absurd h (Nat.not_lt_zero _))) _ List.mem_cons_self
noncomputable def vp_3545 : List vm_R := [(some (.inl (.ofNat 1, .ofNat 1)), va_h0)]
noncomputable def ve_3545 : List vm_E := [([.inl (.ofNat 0, .ofNat 2)], va_h0, 0, [0])]
noncomputable def q_3545 : vm_Q := (132, [.inl (.ofNat 0, .ofNat 2)], va_h0, vp_3545)
noncomputable def vk_3545 : List vm_U := []
noncomputable def vf_3545 : List ((Nat → am_I) → vm_A) := [fun v => (0, [(0, .inl (.ofNat 0, .ofNat 2))], [], (80, []))]
noncomputable def vd_3545_0_0 : List (List Nat) := [[0]]
noncomputable def vd_3545_0 : List (List (List Nat)) := [vd_3545_0_0]
noncomputable def vd_3545 : List (List (List (List Nat))) := [vd_3545_0]
noncomputable def vt_3545 : List (List am_I) := []
noncomputable def vc_3545 : vm_C := (fun _ => vp_3545, fun pc => [], [], 1, vm_inst 8 1 vt_3545 vf_3545 vd_3545)
theorem vx_3545_0 : vm_chk bt_132 [] vk_3545 10 vc_3545 0 1 = true := by decide +kernel
theorem vy_3545 : vm_ents 132 10 vc_3545 ve_3545 = true := by decide +kernel
theorem vw_3545 : ∀ q ∈ vk_3545, vm_wt 1 q := vm_wts vm_kn (by decide +kernel)
theorem v_3545 : vm_at 2 q_3545 := vm_ok (inl := []) (es := ve_3545) bq_132 (by decide) vw_3545 vy_3545 (fun i => vm_hc vx_3545_0 rfl (fun h => absurd h (Nat.not_lt_zero _))) _ List.mem_cons_self
noncomputable def vp_3546 : List vm_R := [(some (.inl (.negSucc 13, .negSucc 13)), va_h0)]
noncomputable def ve_3546 : List vm_E := [([.inr (.inr (some 8)), .inl (.ofNat 0, .ofNat 3), .inl (.ofNat 0, .ofNat 2), .inl (.negSucc 2147483647, .negSucc 0)], va_h0, 0, [0, 1, 2, 3])]
noncomputable def q_3546 : vm_Q := (130, [.inr (.inr (some 8)), .inl (.ofNat 0, .ofNat 3), .inl (.ofNat 0, .ofNat 2), .inl (.negSucc 2147483647, .negSucc 0)], va_h0, vp_3546)
noncomputable def vk_3546 : List vm_U := [(q_298, true, []), (q_300, true, []), (q_301, true, []), (q_302, true, []), (q_3545, true, [])]
noncomputable def vf_3546 : List ((Nat → am_I) → vm_A) := [fun v => (0, [(0, .inr (.inr (some 8))), (1, .inl (v 0)), (2, .inl (.ofNat 0, .ofNat 2)), (3, .inl (.negSucc 2147483647, .negSucc 0))], [], (80, []))]
noncomputable def vd_3546_0_0 : List (List Nat) := [[50331648, 33554432, 16777216, 0]]
noncomputable def vd_3546_0 : List (List (List Nat)) := [vd_3546_0_0]
noncomputable def vd_3546 : List (List (List (List Nat))) := [vd_3546_0]
noncomputable def vt_3546 : List (List am_I) := []
noncomputable def vc_3546 : vm_C := (fun _ => vp_3546, fun pc => (match Nat.beq pc 0 with
  | true => [(fun _ _ => some (.inl 1), fun _ _ => some [.ofNat 0, .ofNat 1, .ofNat 2, .ofNat 3, .ofNat 4])]
  | false => []), [], 4, vm_inst 8 4 vt_3546 vf_3546 vd_3546)
theorem vx_3546_0 : vm_chk bt_130 [] vk_3546 15 vc_3546 0 4 = true := by decide +kernel
theorem vy_3546 : vm_ents 130 15 vc_3546 ve_3546 = true := by decide +kernel
theorem vw_3546 : ∀ q ∈ vk_3546, vm_wt 2 q := vm_wts (vm_kc (vm_up v_298 rfl) (vm_kc (vm_up v_300 rfl) (vm_kc (vm_up v_301 rfl) (vm_kc (vm_up v_302 rfl) (vm_kc (vm_up v_3545 rfl) vm_kn))))) (by decide +kernel)
theorem v_3546 : vm_at 3 q_3546 := vm_ok (inl := []) (es := ve_3546) bq_130 (by decide) vw_3546 vy_3546 (fun i => vm_hc vx_3546_0 rfl (fun h => absurd h (Nat.not_lt_zero _))) _ List.mem_cons_self
noncomputable def vp_3547 : List vm_R := [(some (.inl (.ofNat 1, .ofNat 1)), va_h0)]
noncomputable def ve_3547 : List vm_E := [([.inr (.inl (.ofNat 0, .ofNat 2)), .inr (.inl (.ofNat 0, .ofNat 0)), .inr (.inl (.ofNat 2, .ofNat 2))], va_h0, 0, [0])]
noncomputable def q_3547 : vm_Q := (149, [.inr (.inl (.ofNat 0, .ofNat 2)), .inr (.inl (.ofNat 0, .ofNat 0)), .inr (.inl (.ofNat 2, .ofNat 2))], va_h0, vp_3547)
noncomputable def vk_3547 : List vm_U := []
noncomputable def vf_3547 : List ((Nat → am_I) → vm_A) := [fun v => (0, [(0, .inr (.inl (.ofNat 0, .ofNat 2))), (2, .inr (.inl (.ofNat 0, .ofNat 0))), (4, .inr (.inl (.ofNat 2, .ofNat 2)))], [], (80, []))]
noncomputable def vd_3547_0_0 : List (List Nat) := [[0]]
noncomputable def vd_3547_0 : List (List (List Nat)) := [vd_3547_0_0]
noncomputable def vd_3547 : List (List (List (List Nat))) := [vd_3547_0]
noncomputable def vt_3547 : List (List am_I) := []
noncomputable def vc_3547 : vm_C := (fun _ => vp_3547, fun pc => [], [], 1, vm_inst 8 1 vt_3547 vf_3547 vd_3547)
theorem vx_3547_0 : vm_chk bt_149 [] vk_3547 13 vc_3547 0 1 = true := by decide +kernel
theorem vy_3547 : vm_ents 149 13 vc_3547 ve_3547 = true := by decide +kernel
theorem vw_3547 : ∀ q ∈ vk_3547, vm_wt 1 q := vm_wts vm_kn (by decide +kernel)
theorem v_3547 : vm_at 2 q_3547 := vm_ok (inl := []) (es := ve_3547) bq_149 (by decide) vw_3547 vy_3547 (fun i => vm_hc vx_3547_0 rfl (fun h => absurd h (Nat.not_lt_zero _))) _ List.mem_cons_self
noncomputable def vp_3548 : List vm_R := [(some (.inl (.ofNat 1, .ofNat 1)), va_h0)]
noncomputable def ve_3548 : List vm_E := [([.inl (.ofNat 0, .ofNat 0), .inl (.ofNat 0, .ofNat 2)], va_h0, 0, [0])]
noncomputable def q_3548 : vm_Q := (220, [.inl (.ofNat 0, .ofNat 0), .inl (.ofNat 0, .ofNat 2)], va_h0, vp_3548)
noncomputable def vk_3548 : List vm_U := [(q_572, true, []), (q_3547, true, [])]
noncomputable def vf_3548 : List ((Nat → am_I) → vm_A) := [fun v => (0, [(0, .inl (.ofNat 0, .ofNat 0)), (1, .inl (.ofNat 0, .ofNat 2))], [], (80, []))]
noncomputable def vd_3548_0_0 : List (List Nat) := [[0]]
noncomputable def vd_3548_0 : List (List (List Nat)) := [vd_3548_0_0]
noncomputable def vd_3548 : List (List (List (List Nat))) := [vd_3548_0]
noncomputable def vt_3548 : List (List am_I) := []
noncomputable def vc_3548 : vm_C := (fun _ => vp_3548, fun pc => [], [], 1, vm_inst 8 1 vt_3548 vf_3548 vd_3548)
theorem vx_3548_0 : vm_chk bt_220 [] vk_3548 17 vc_3548 0 1 = true := by decide +kernel
theorem vy_3548 : vm_ents 220 17 vc_3548 ve_3548 = true := by decide +kernel
theorem vw_3548 : ∀ q ∈ vk_3548, vm_wt 2 q := vm_wts (vm_kc (vm_up v_572 rfl) (vm_kc (vm_up v_3547 rfl) vm_kn)) (by decide +kernel)
theorem v_3548 : vm_at 3 q_3548 := vm_ok (inl := []) (es := ve_3548) bq_220 (by decide) vw_3548 vy_3548 (fun i => vm_hc vx_3548_0 rfl (fun h => absurd h (Nat.not_lt_zero _))) _ List.mem_cons_self
noncomputable def vp_3549 : List vm_R := [(some (.inl (.ofNat 1, .ofNat 1)), va_h0)]
noncomputable def ve_3549 : List vm_E := [([.inl (.ofNat 1, .ofNat 1), .inl (.ofNat 0, .ofNat 2)], va_h0, 0, [0])]
noncomputable def q_3549 : vm_Q := (220, [.inl (.ofNat 1, .ofNat 1), .inl (.ofNat 0, .ofNat 2)], va_h0, vp_3549)
noncomputable def vk_3549 : List vm_U := [(q_573, true, []), (q_3547, true, [])]
noncomputable def vf_3549 : List ((Nat → am_I) → vm_A) := [fun v => (0, [(0, .inl (.ofNat 1, .ofNat 1)), (1, .inl (.ofNat 0, .ofNat 2))], [], (80, []))]
noncomputable def vd_3549_0_0 : List (List Nat) := [[0]]
noncomputable def vd_3549_0 : List (List (List Nat)) := [vd_3549_0_0]
noncomputable def vd_3549 : List (List (List (List Nat))) := [vd_3549_0]
noncomputable def vt_3549 : List (List am_I) := []
noncomputable def vc_3549 : vm_C := (fun _ => vp_3549, fun pc => [], [], 1, vm_inst 8 1 vt_3549 vf_3549 vd_3549)
theorem vx_3549_0 : vm_chk bt_220 [] vk_3549 17 vc_3549 0 1 = true := by decide +kernel
theorem vy_3549 : vm_ents 220 17 vc_3549 ve_3549 = true := by decide +kernel
theorem vw_3549 : ∀ q ∈ vk_3549, vm_wt 2 q := vm_wts (vm_kc (vm_up v_573 rfl) (vm_kc (vm_up v_3547 rfl) vm_kn)) (by decide +kernel)
theorem v_3549 : vm_at 3 q_3549 := vm_ok (inl := []) (es := ve_3549) bq_220 (by decide) vw_3549 vy_3549 (fun i => vm_hc vx_3549_0 rfl (fun h => absurd h (Nat.not_lt_zero _))) _ List.mem_cons_self
noncomputable def vp_3550 : List vm_R := [(some (.inl (.ofNat 1, .ofNat 1)), va_h0)]
noncomputable def ve_3550 : List vm_E := [([.inl (.ofNat 2, .ofNat 2), .inl (.ofNat 0, .ofNat 2)], va_h0, 0, [0])]
noncomputable def q_3550 : vm_Q := (220, [.inl (.ofNat 2, .ofNat 2), .inl (.ofNat 0, .ofNat 2)], va_h0, vp_3550)
noncomputable def vk_3550 : List vm_U := [(q_574, true, []), (q_3547, true, [])]
noncomputable def vf_3550 : List ((Nat → am_I) → vm_A) := [fun v => (0, [(0, .inl (.ofNat 2, .ofNat 2)), (1, .inl (.ofNat 0, .ofNat 2))], [], (80, []))]
noncomputable def vd_3550_0_0 : List (List Nat) := [[0]]
noncomputable def vd_3550_0 : List (List (List Nat)) := [vd_3550_0_0]
noncomputable def vd_3550 : List (List (List (List Nat))) := [vd_3550_0]
noncomputable def vt_3550 : List (List am_I) := []
noncomputable def vc_3550 : vm_C := (fun _ => vp_3550, fun pc => [], [], 1, vm_inst 8 1 vt_3550 vf_3550 vd_3550)
theorem vx_3550_0 : vm_chk bt_220 [] vk_3550 17 vc_3550 0 1 = true := by decide +kernel
theorem vy_3550 : vm_ents 220 17 vc_3550 ve_3550 = true := by decide +kernel
theorem vw_3550 : ∀ q ∈ vk_3550, vm_wt 2 q := vm_wts (vm_kc (vm_up v_574 rfl) (vm_kc (vm_up v_3547 rfl) vm_kn)) (by decide +kernel)
theorem v_3550 : vm_at 3 q_3550 := vm_ok (inl := []) (es := ve_3550) bq_220 (by decide) vw_3550 vy_3550 (fun i => vm_hc vx_3550_0 rfl (fun h => absurd h (Nat.not_lt_zero _))) _ List.mem_cons_self
noncomputable def vp_3551 : List vm_R := [(some (.inl (.ofNat 1, .ofNat 1)), va_h0)]
noncomputable def ve_3551 : List vm_E := [([.inl (.ofNat 3, .ofNat 3), .inl (.ofNat 0, .ofNat 2)], va_h0, 0, [0])]
noncomputable def q_3551 : vm_Q := (220, [.inl (.ofNat 3, .ofNat 3), .inl (.ofNat 0, .ofNat 2)], va_h0, vp_3551)
noncomputable def vk_3551 : List vm_U := [(q_575, true, []), (q_3547, true, [])]
noncomputable def vf_3551 : List ((Nat → am_I) → vm_A) := [fun v => (0, [(0, .inl (.ofNat 3, .ofNat 3)), (1, .inl (.ofNat 0, .ofNat 2))], [], (80, []))]
noncomputable def vd_3551_0_0 : List (List Nat) := [[0]]
noncomputable def vd_3551_0 : List (List (List Nat)) := [vd_3551_0_0]
noncomputable def vd_3551 : List (List (List (List Nat))) := [vd_3551_0]
noncomputable def vt_3551 : List (List am_I) := []
noncomputable def vc_3551 : vm_C := (fun _ => vp_3551, fun pc => [], [], 1, vm_inst 8 1 vt_3551 vf_3551 vd_3551)
theorem vx_3551_0 : vm_chk bt_220 [] vk_3551 17 vc_3551 0 1 = true := by decide +kernel
theorem vy_3551 : vm_ents 220 17 vc_3551 ve_3551 = true := by decide +kernel
theorem vw_3551 : ∀ q ∈ vk_3551, vm_wt 2 q := vm_wts (vm_kc (vm_up v_575 rfl) (vm_kc (vm_up v_3547 rfl) vm_kn)) (by decide +kernel)
theorem v_3551 : vm_at 3 q_3551 := vm_ok (inl := []) (es := ve_3551) bq_220 (by decide) vw_3551 vy_3551 (fun i => vm_hc vx_3551_0 rfl (fun h => absurd h (Nat.not_lt_zero _))) _ List.mem_cons_self
noncomputable def vp_3552 : List vm_R := [(some (.inl (.negSucc 13, .negSucc 13)), va_h0)]
noncomputable def ve_3552 : List vm_E := [([.inr (.inr (some 70)), .inl (.ofNat 0, .ofNat 3), .inl (.ofNat 0, .ofNat 2), .inl (.negSucc 2147483647, .negSucc 0)], va_h0, 0, [0, 1, 2, 3])]
noncomputable def q_3552 : vm_Q := (219, [.inr (.inr (some 70)), .inl (.ofNat 0, .ofNat 3), .inl (.ofNat 0, .ofNat 2), .inl (.negSucc 2147483647, .negSucc 0)], va_h0, vp_3552)
noncomputable def vk_3552 : List vm_U := [(q_3548, true, []), (q_3549, true, []), (q_3550, true, []), (q_3551, true, [])]
noncomputable def vf_3552 : List ((Nat → am_I) → vm_A) := [fun v => (0, [(0, .inr (.inr (some 70))), (1, .inl (v 0)), (2, .inl (.ofNat 0, .ofNat 2)), (3, .inl (.negSucc 2147483647, .negSucc 0))], [], (80, []))]
noncomputable def vd_3552_0_0 : List (List Nat) := [[50331648, 33554432, 16777216, 0]]
noncomputable def vd_3552_0 : List (List (List Nat)) := [vd_3552_0_0]
noncomputable def vd_3552 : List (List (List (List Nat))) := [vd_3552_0]
noncomputable def vt_3552 : List (List am_I) := []
noncomputable def vc_3552 : vm_C := (fun _ => vp_3552, fun pc => (match Nat.beq pc 0 with
  | true => [(fun _ _ => some (.inl 1), fun _ _ => some [.ofNat 0, .ofNat 1, .ofNat 2, .ofNat 3, .ofNat 4])]
  | false => []), [40], 4, vm_inst 8 4 vt_3552 vf_3552 vd_3552)
theorem vx_3552_0 : vm_chk bt_219 [] vk_3552 13 vc_3552 0 4 = true := by decide +kernel
theorem vy_3552 : vm_ents 219 13 vc_3552 ve_3552 = true := by decide +kernel
theorem vw_3552 : ∀ q ∈ vk_3552, vm_wt 3 q := vm_wts (vm_kc (vm_up v_3548 rfl) (vm_kc (vm_up v_3549 rfl) (vm_kc (vm_up v_3550 rfl) (vm_kc (vm_up v_3551 rfl) vm_kn)))) (by decide +kernel)
theorem v_3552 : vm_at 4 q_3552 := vm_ok (inl := []) (es := ve_3552) bq_219 (by decide) vw_3552 vy_3552 (fun i => vm_hc vx_3552_0 rfl (fun h => absurd h (Nat.not_lt_zero _))) _ List.mem_cons_self
noncomputable def vp_3553 : List vm_R := [(some (.inl (.ofNat 1, .ofNat 1)), va_h0)]
noncomputable def ve_3553 : List vm_E := [([.inr (.inr (some 8)), .inl (.ofNat 0, .ofNat 3), .inl (.ofNat 0, .ofNat 2), .inl (.ofNat 0, .ofNat 40)], va_h0, 0, [0, 1, 2, 3])]
noncomputable def q_3553 : vm_Q := (130, [.inr (.inr (some 8)), .inl (.ofNat 0, .ofNat 3), .inl (.ofNat 0, .ofNat 2), .inl (.ofNat 0, .ofNat 40)], va_h0, vp_3553)
noncomputable def vk_3553 : List vm_U := [(q_298, true, []), (q_300, true, []), (q_301, true, []), (q_302, true, []), (q_3545, true, []), (q_128, false, []), (q_142, false, []), (q_156, false, []), (q_170, false, [])]
noncomputable def vf_3553 : List ((Nat → am_I) → vm_A) := [fun v => (0, [(0, .inr (.inr (some 8))), (1, .inl (v 0)), (2, .inl (.ofNat 0, .ofNat 2)), (3, .inl (.ofNat 0, .ofNat 40))], [], (80, []))]
noncomputable def vd_3553_0_0 : List (List Nat) := [[50331648, 33554432, 16777216, 0]]
noncomputable def vd_3553_0 : List (List (List Nat)) := [vd_3553_0_0]
noncomputable def vd_3553 : List (List (List (List Nat))) := [vd_3553_0]
noncomputable def vt_3553 : List (List am_I) := []
noncomputable def vc_3553 : vm_C := (fun _ => vp_3553, fun pc => (match Nat.beq pc 0 with
  | true => [(fun _ _ => some (.inl 1), fun _ _ => some [.ofNat 0, .ofNat 1, .ofNat 2, .ofNat 3, .ofNat 4])]
  | false => []), [], 4, vm_inst 8 4 vt_3553 vf_3553 vd_3553)
theorem vx_3553_0 : vm_chk bt_130 [] vk_3553 22 vc_3553 0 4 = true := by decide +kernel
theorem vy_3553 : vm_ents 130 22 vc_3553 ve_3553 = true := by decide +kernel
theorem vw_3553 : ∀ q ∈ vk_3553, vm_wt 3 q := vm_wts (vm_kc (vm_up v_298 rfl) (vm_kc (vm_up v_300 rfl) (vm_kc (vm_up v_301 rfl) (vm_kc (vm_up v_302 rfl) (vm_kc (vm_up v_3545 rfl) (vm_kc (vm_up v_128 rfl) (vm_kc (vm_up v_142 rfl) (vm_kc (vm_up v_156 rfl) (vm_kc (vm_up v_170 rfl) vm_kn))))))))) (by decide +kernel)
theorem v_3553 : vm_at 4 q_3553 := vm_ok (inl := []) (es := ve_3553) bq_130 (by decide) vw_3553 vy_3553 (fun i => vm_hc vx_3553_0 rfl (fun h => absurd h (Nat.not_lt_zero _))) _ List.mem_cons_self
noncomputable def vp_3554 : List vm_R := [(some (.inl (.ofNat 1, .ofNat 1)), va_h0)]
noncomputable def ve_3554 : List vm_E := [([.inr (.inr (some 70)), .inl (.ofNat 0, .ofNat 3), .inl (.ofNat 0, .ofNat 2), .inl (.ofNat 0, .ofNat 40)], va_h0, 0, [0, 42, 84, 126])]
noncomputable def q_3554 : vm_Q := (219, [.inr (.inr (some 70)), .inl (.ofNat 0, .ofNat 3), .inl (.ofNat 0, .ofNat 2), .inl (.ofNat 0, .ofNat 40)], va_h0, vp_3554)
noncomputable def vk_3554 : List vm_U := [(q_3548, true, []), (q_3549, true, []), (q_3550, true, []), (q_3551, true, [])]
noncomputable def vf_3554 : List ((Nat → am_I) → vm_A) := [fun v => (0, [(0, .inr (.inr (some 70))), (1, .inl (v 0)), (2, .inl (.ofNat 0, .ofNat 2)), (3, .inl (.ofNat 0, .ofNat 40))], [], (80, [])), fun v => (40, [(0, .inr (.inr (some 70))), (1, .inl (v 0)), (2, .inl am_top), (3, .inl am_top), (4, .inl (v 1))], [], (80, []))]
noncomputable def vd_3554_0_0 : List (List Nat) := [[12884967424, 12884967425, 1112396595201, 2211908222977, 3311419850753, 4410931478529, 5510443106305, 6609954734081], [7709466361857, 8808977989633, 9908489617409, 11008001245185, 12107512872961, 13207024500737, 14306536128513, 15406047756289], [16505559384065, 17605071011841, 18704582639617, 19804094267393, 20903605895169, 22003117522945, 23102629150721, 24202140778497], [25301652406273, 26401164034049, 27500675661825, 28600187289601, 29699698917377, 30799210545153, 31898722172929, 32998233800705], [34097745428481, 35197257056257, 36296768684033, 37396280311809, 38495791939585, 39595303567361, 40694815195137, 41794326822913], [42893838450689, 171849023489, 8590000128, 8590000129, 1108101627905, 2207613255681, 3307124883457, 4406636511233], [5506148139009, 6605659766785, 7705171394561, 8804683022337, 9904194650113, 11003706277889, 12103217905665, 13202729533441], [14302241161217, 15401752788993, 16501264416769, 17600776044545, 18700287672321, 19799799300097, 20899310927873, 21998822555649]]
noncomputable def vd_3554_0_1 : List (List Nat) := [[23098334183425, 24197845811201, 25297357438977, 26396869066753, 27496380694529, 28595892322305, 29695403950081, 30794915577857], [31894427205633, 32993938833409, 34093450461185, 35192962088961, 36292473716737, 37391985344513, 38491496972289, 39591008600065], [40690520227841, 41790031855617, 42889543483393, 171832246273, 4295032832, 4295032833, 1103806660609, 2203318288385], [3302829916161, 4402341543937, 5501853171713, 6601364799489, 7700876427265, 8800388055041, 9899899682817, 10999411310593], [12098922938369, 13198434566145, 14297946193921, 15397457821697, 16496969449473, 17596481077249, 18695992705025, 19795504332801], [20895015960577, 21994527588353, 23094039216129, 24193550843905, 25293062471681, 26392574099457, 27492085727233, 28591597355009], [29691108982785, 30790620610561, 31890132238337, 32989643866113, 34089155493889, 35188667121665, 36288178749441, 37387690377217], [38487202004993, 39586713632769, 40686225260545, 41785736888321, 42885248516097, 171815469057, 65536, 65537]]
noncomputable def vd_3554_0_2 : List (List Nat) := [[1099511693313, 2199023321089, 3298534948865, 4398046576641, 5497558204417, 6597069832193, 7696581459969, 8796093087745], [9895604715521, 10995116343297, 12094627971073, 13194139598849, 14293651226625, 15393162854401, 16492674482177, 17592186109953], [18691697737729, 19791209365505, 20890720993281, 21990232621057, 23089744248833, 24189255876609, 25288767504385, 26388279132161], [27487790759937, 28587302387713, 29686814015489, 30786325643265, 31885837271041, 32985348898817, 34084860526593, 35184372154369], [36283883782145, 37383395409921, 38482907037697, 39582418665473, 40681930293249, 41781441921025, 42880953548801, 171798691841]]
noncomputable def vd_3554_0 : List (List (List Nat)) := [vd_3554_0_0, vd_3554_0_1, vd_3554_0_2]
noncomputable def vd_3554 : List (List (List (List Nat))) := [vd_3554_0]
noncomputable def vt_3554 : List (List am_I) := []
noncomputable def vc_3554 : vm_C := (fun _ => vp_3554, fun pc => (match Nat.beq pc 0 with
  | true => [(fun _ _ => some (.inl 1), fun _ _ => some [.ofNat 0, .ofNat 1, .ofNat 2, .ofNat 3, .ofNat 4])]
  | false => []), [40], 168, vm_inst 8 41 vt_3554 vf_3554 vd_3554)
theorem vx_3554_0 : vm_chk bt_219 [] vk_3554 24 vc_3554 0 12 = true := by decide +kernel
theorem vx_3554_1 : vm_chk bt_219 [] vk_3554 24 vc_3554 12 12 = true := by decide +kernel
theorem vx_3554_2 : vm_chk bt_219 [] vk_3554 24 vc_3554 24 12 = true := by decide +kernel
theorem vx_3554_3 : vm_chk bt_219 [] vk_3554 24 vc_3554 36 12 = true := by decide +kernel
theorem vx_3554_4 : vm_chk bt_219 [] vk_3554 24 vc_3554 48 12 = true := by decide +kernel
theorem vx_3554_5 : vm_chk bt_219 [] vk_3554 24 vc_3554 60 12 = true := by decide +kernel
theorem vx_3554_6 : vm_chk bt_219 [] vk_3554 24 vc_3554 72 12 = true := by decide +kernel
theorem vx_3554_7 : vm_chk bt_219 [] vk_3554 24 vc_3554 84 12 = true := by decide +kernel
theorem vx_3554_8 : vm_chk bt_219 [] vk_3554 24 vc_3554 96 12 = true := by decide +kernel
theorem vx_3554_9 : vm_chk bt_219 [] vk_3554 24 vc_3554 108 12 = true := by decide +kernel
theorem vx_3554_10 : vm_chk bt_219 [] vk_3554 24 vc_3554 120 12 = true := by decide +kernel
theorem vx_3554_11 : vm_chk bt_219 [] vk_3554 24 vc_3554 132 12 = true := by decide +kernel
theorem vx_3554_12 : vm_chk bt_219 [] vk_3554 24 vc_3554 144 12 = true := by decide +kernel
theorem vx_3554_13 : vm_chk bt_219 [] vk_3554 24 vc_3554 156 12 = true := by decide +kernel
theorem vy_3554 : vm_ents 219 24 vc_3554 ve_3554 = true := by decide +kernel
theorem vw_3554 : ∀ q ∈ vk_3554, vm_wt 3 q := vm_wts (vm_kc (vm_up v_3548 rfl) (vm_kc (vm_up v_3549 rfl) (vm_kc (vm_up v_3550 rfl) (vm_kc (vm_up v_3551 rfl) vm_kn)))) (by decide +kernel)
theorem v_3554 : vm_at 4 q_3554 := vm_ok (inl := []) (es := ve_3554) bq_219 (by decide) vw_3554 vy_3554 (fun i => vm_hc vx_3554_13 rfl (vm_hc vx_3554_12 rfl (vm_hc vx_3554_11 rfl (vm_hc vx_3554_10 rfl (vm_hc vx_3554_9 rfl (vm_hc vx_3554_8 rfl (vm_hc vx_3554_7 rfl (vm_hc vx_3554_6 rfl (vm_hc vx_3554_5 rfl (vm_hc vx_3554_4 rfl (vm_hc vx_3554_3 rfl (vm_hc vx_3554_2 rfl (vm_hc vx_3554_1 rfl (vm_hc vx_3554_0 rfl (fun h => absurd h (Nat.not_lt_zero _)))))))))))))))) _ List.mem_cons_self
noncomputable def vp_3555 : List vm_R := [(some (.inl (.negSucc 0, .negSucc 0)), va_h0)]
noncomputable def ve_3555 : List vm_E := [([.inr (.inr (some 8)), .inl (.ofNat 0, .ofNat 3), .inl (.ofNat 0, .ofNat 2), .inl (.ofNat 41, .ofNat 2147483647)], va_h0, 0, [0, 1, 2, 3])]
noncomputable def q_3555 : vm_Q := (130, [.inr (.inr (some 8)), .inl (.ofNat 0, .ofNat 3), .inl (.ofNat 0, .ofNat 2), .inl (.ofNat 41, .ofNat 2147483647)], va_h0, vp_3555)
noncomputable def vk_3555 : List vm_U := [(q_298, true, []), (q_300, true, []), (q_301, true, []), (q_302, true, []), (q_3545, true, [])]
noncomputable def vf_3555 : List ((Nat → am_I) → vm_A) := [fun v => (0, [(0, .inr (.inr (some 8))), (1, .inl (v 0)), (2, .inl (.ofNat 0, .ofNat 2)), (3, .inl (.ofNat 41, .ofNat 2147483647))], [], (80, []))]
noncomputable def vd_3555_0_0 : List (List Nat) := [[50331648, 33554432, 16777216, 0]]
noncomputable def vd_3555_0 : List (List (List Nat)) := [vd_3555_0_0]
noncomputable def vd_3555 : List (List (List (List Nat))) := [vd_3555_0]
noncomputable def vt_3555 : List (List am_I) := []
noncomputable def vc_3555 : vm_C := (fun _ => vp_3555, fun pc => (match Nat.beq pc 0 with
  | true => [(fun _ _ => some (.inl 1), fun _ _ => some [.ofNat 0, .ofNat 1, .ofNat 2, .ofNat 3, .ofNat 4])]
  | false => []), [], 4, vm_inst 8 4 vt_3555 vf_3555 vd_3555)
theorem vx_3555_0 : vm_chk bt_130 [] vk_3555 13 vc_3555 0 4 = true := by decide +kernel
theorem vy_3555 : vm_ents 130 13 vc_3555 ve_3555 = true := by decide +kernel
theorem vw_3555 : ∀ q ∈ vk_3555, vm_wt 2 q := vm_wts (vm_kc (vm_up v_298 rfl) (vm_kc (vm_up v_300 rfl) (vm_kc (vm_up v_301 rfl) (vm_kc (vm_up v_302 rfl) (vm_kc (vm_up v_3545 rfl) vm_kn))))) (by decide +kernel)
theorem v_3555 : vm_at 3 q_3555 := vm_ok (inl := []) (es := ve_3555) bq_130 (by decide) vw_3555 vy_3555 (fun i => vm_hc vx_3555_0 rfl (fun h => absurd h (Nat.not_lt_zero _))) _ List.mem_cons_self
noncomputable def vp_3556 : List vm_R := [(some (.inl (.negSucc 0, .negSucc 0)), va_h0)]
noncomputable def ve_3556 : List vm_E := [([.inr (.inr (some 70)), .inl (.ofNat 0, .ofNat 3), .inl (.ofNat 0, .ofNat 2), .inl (.ofNat 41, .ofNat 2147483647)], va_h0, 0, [0, 1, 2, 3])]
noncomputable def q_3556 : vm_Q := (219, [.inr (.inr (some 70)), .inl (.ofNat 0, .ofNat 3), .inl (.ofNat 0, .ofNat 2), .inl (.ofNat 41, .ofNat 2147483647)], va_h0, vp_3556)
noncomputable def vk_3556 : List vm_U := [(q_3548, true, []), (q_3549, true, []), (q_3550, true, []), (q_3551, true, [])]
noncomputable def vf_3556 : List ((Nat → am_I) → vm_A) := [fun v => (0, [(0, .inr (.inr (some 70))), (1, .inl (v 0)), (2, .inl (.ofNat 0, .ofNat 2)), (3, .inl (.ofNat 41, .ofNat 2147483647))], [], (80, []))]
noncomputable def vd_3556_0_0 : List (List Nat) := [[50331648, 33554432, 16777216, 0]]
noncomputable def vd_3556_0 : List (List (List Nat)) := [vd_3556_0_0]
noncomputable def vd_3556 : List (List (List (List Nat))) := [vd_3556_0]
noncomputable def vt_3556 : List (List am_I) := []
noncomputable def vc_3556 : vm_C := (fun _ => vp_3556, fun pc => (match Nat.beq pc 0 with
  | true => [(fun _ _ => some (.inl 1), fun _ _ => some [.ofNat 0, .ofNat 1, .ofNat 2, .ofNat 3, .ofNat 4])]
  | false => []), [40], 4, vm_inst 8 4 vt_3556 vf_3556 vd_3556)
theorem vx_3556_0 : vm_chk bt_219 [] vk_3556 11 vc_3556 0 4 = true := by decide +kernel
theorem vy_3556 : vm_ents 219 11 vc_3556 ve_3556 = true := by decide +kernel
theorem vw_3556 : ∀ q ∈ vk_3556, vm_wt 3 q := vm_wts (vm_kc (vm_up v_3548 rfl) (vm_kc (vm_up v_3549 rfl) (vm_kc (vm_up v_3550 rfl) (vm_kc (vm_up v_3551 rfl) vm_kn)))) (by decide +kernel)
theorem v_3556 : vm_at 4 q_3556 := vm_ok (inl := []) (es := ve_3556) bq_219 (by decide) vw_3556 vy_3556 (fun i => vm_hc vx_3556_0 rfl (fun h => absurd h (Nat.not_lt_zero _))) _ List.mem_cons_self
noncomputable def vp_3557 : List vm_R := [(some (.inl (.ofNat 0, .ofNat 0)), va_h0)]
noncomputable def ve_3557 : List vm_E := [([.inl (.ofNat 3, .ofNat 2147483647)], va_h0, 0, [0])]
noncomputable def q_3557 : vm_Q := (132, [.inl (.ofNat 3, .ofNat 2147483647)], va_h0, vp_3557)
noncomputable def vk_3557 : List vm_U := []
noncomputable def vf_3557 : List ((Nat → am_I) → vm_A) := [fun v => (0, [(0, .inl (.ofNat 3, .ofNat 2147483647))], [], (80, []))]
noncomputable def vd_3557_0_0 : List (List Nat) := [[0]]
noncomputable def vd_3557_0 : List (List (List Nat)) := [vd_3557_0_0]
noncomputable def vd_3557 : List (List (List (List Nat))) := [vd_3557_0]
noncomputable def vt_3557 : List (List am_I) := []
noncomputable def vc_3557 : vm_C := (fun _ => vp_3557, fun pc => [], [], 1, vm_inst 8 1 vt_3557 vf_3557 vd_3557)
theorem vx_3557_0 : vm_chk bt_132 [] vk_3557 9 vc_3557 0 1 = true := by decide +kernel
theorem vy_3557 : vm_ents 132 9 vc_3557 ve_3557 = true := by decide +kernel
theorem vw_3557 : ∀ q ∈ vk_3557, vm_wt 1 q := vm_wts vm_kn (by decide +kernel)
theorem v_3557 : vm_at 2 q_3557 := vm_ok (inl := []) (es := ve_3557) bq_132 (by decide) vw_3557 vy_3557 (fun i => vm_hc vx_3557_0 rfl (fun h => absurd h (Nat.not_lt_zero _))) _ List.mem_cons_self
noncomputable def vp_3558 : List vm_R := [(some (.inl (.negSucc 0, .negSucc 0)), va_h0)]
noncomputable def ve_3558 : List vm_E := [([.inr (.inr (some 8)), .inl (.ofNat 0, .ofNat 3), .inl (.ofNat 3, .ofNat 2147483647), .inl (.negSucc 2147483647, .negSucc 0)], va_h0, 0, [0, 1, 2, 3])]
noncomputable def q_3558 : vm_Q := (130, [.inr (.inr (some 8)), .inl (.ofNat 0, .ofNat 3), .inl (.ofNat 3, .ofNat 2147483647), .inl (.negSucc 2147483647, .negSucc 0)], va_h0, vp_3558)
noncomputable def vk_3558 : List vm_U := [(q_298, true, []), (q_300, true, []), (q_301, true, []), (q_302, true, []), (q_3557, true, [])]
noncomputable def vf_3558 : List ((Nat → am_I) → vm_A) := [fun v => (0, [(0, .inr (.inr (some 8))), (1, .inl (v 0)), (2, .inl (.ofNat 3, .ofNat 2147483647)), (3, .inl (.negSucc 2147483647, .negSucc 0))], [], (80, []))]
noncomputable def vd_3558_0_0 : List (List Nat) := [[50331648, 33554432, 16777216, 0]]
noncomputable def vd_3558_0 : List (List (List Nat)) := [vd_3558_0_0]
noncomputable def vd_3558 : List (List (List (List Nat))) := [vd_3558_0]
noncomputable def vt_3558 : List (List am_I) := []
noncomputable def vc_3558 : vm_C := (fun _ => vp_3558, fun pc => (match Nat.beq pc 0 with
  | true => [(fun _ _ => some (.inl 1), fun _ _ => some [.ofNat 0, .ofNat 1, .ofNat 2, .ofNat 3, .ofNat 4])]
  | false => []), [], 4, vm_inst 8 4 vt_3558 vf_3558 vd_3558)
theorem vx_3558_0 : vm_chk bt_130 [] vk_3558 10 vc_3558 0 4 = true := by decide +kernel
theorem vy_3558 : vm_ents 130 10 vc_3558 ve_3558 = true := by decide +kernel
theorem vw_3558 : ∀ q ∈ vk_3558, vm_wt 2 q := vm_wts (vm_kc (vm_up v_298 rfl) (vm_kc (vm_up v_300 rfl) (vm_kc (vm_up v_301 rfl) (vm_kc (vm_up v_302 rfl) (vm_kc (vm_up v_3557 rfl) vm_kn))))) (by decide +kernel)
theorem v_3558 : vm_at 3 q_3558 := vm_ok (inl := []) (es := ve_3558) bq_130 (by decide) vw_3558 vy_3558 (fun i => vm_hc vx_3558_0 rfl (fun h => absurd h (Nat.not_lt_zero _))) _ List.mem_cons_self
noncomputable def vp_3559 : List vm_R := [(some (.inl (.ofNat 0, .ofNat 0)), va_h0)]
noncomputable def ve_3559 : List vm_E := [([.inr (.inl (.ofNat 3, .ofNat 2147483647)), .inr (.inl (.ofNat 0, .ofNat 0)), .inr (.inl (.ofNat 2, .ofNat 2))], va_h0, 0, [0])]
noncomputable def q_3559 : vm_Q := (149, [.inr (.inl (.ofNat 3, .ofNat 2147483647)), .inr (.inl (.ofNat 0, .ofNat 0)), .inr (.inl (.ofNat 2, .ofNat 2))], va_h0, vp_3559)
noncomputable def vk_3559 : List vm_U := []
noncomputable def vf_3559 : List ((Nat → am_I) → vm_A) := [fun v => (0, [(0, .inr (.inl (.ofNat 3, .ofNat 2147483647))), (2, .inr (.inl (.ofNat 0, .ofNat 0))), (4, .inr (.inl (.ofNat 2, .ofNat 2)))], [], (80, []))]
noncomputable def vd_3559_0_0 : List (List Nat) := [[0]]
noncomputable def vd_3559_0 : List (List (List Nat)) := [vd_3559_0_0]
noncomputable def vd_3559 : List (List (List (List Nat))) := [vd_3559_0]
noncomputable def vt_3559 : List (List am_I) := []
noncomputable def vc_3559 : vm_C := (fun _ => vp_3559, fun pc => [], [], 1, vm_inst 8 1 vt_3559 vf_3559 vd_3559)
theorem vx_3559_0 : vm_chk bt_149 [] vk_3559 12 vc_3559 0 1 = true := by decide +kernel
theorem vy_3559 : vm_ents 149 12 vc_3559 ve_3559 = true := by decide +kernel
theorem vw_3559 : ∀ q ∈ vk_3559, vm_wt 1 q := vm_wts vm_kn (by decide +kernel)
theorem v_3559 : vm_at 2 q_3559 := vm_ok (inl := []) (es := ve_3559) bq_149 (by decide) vw_3559 vy_3559 (fun i => vm_hc vx_3559_0 rfl (fun h => absurd h (Nat.not_lt_zero _))) _ List.mem_cons_self
noncomputable def vp_3560 : List vm_R := [(some (.inl (.ofNat 0, .ofNat 0)), va_h0)]
noncomputable def ve_3560 : List vm_E := [([.inl (.ofNat 0, .ofNat 0), .inl (.ofNat 3, .ofNat 2147483647)], va_h0, 0, [0])]
noncomputable def q_3560 : vm_Q := (220, [.inl (.ofNat 0, .ofNat 0), .inl (.ofNat 3, .ofNat 2147483647)], va_h0, vp_3560)
noncomputable def vk_3560 : List vm_U := [(q_572, true, []), (q_3559, true, [])]
noncomputable def vf_3560 : List ((Nat → am_I) → vm_A) := [fun v => (0, [(0, .inl (.ofNat 0, .ofNat 0)), (1, .inl (.ofNat 3, .ofNat 2147483647))], [], (80, []))]
noncomputable def vd_3560_0_0 : List (List Nat) := [[0]]
noncomputable def vd_3560_0 : List (List (List Nat)) := [vd_3560_0_0]
noncomputable def vd_3560 : List (List (List (List Nat))) := [vd_3560_0]
noncomputable def vt_3560 : List (List am_I) := []
noncomputable def vc_3560 : vm_C := (fun _ => vp_3560, fun pc => [], [], 1, vm_inst 8 1 vt_3560 vf_3560 vd_3560)
theorem vx_3560_0 : vm_chk bt_220 [] vk_3560 16 vc_3560 0 1 = true := by decide +kernel
theorem vy_3560 : vm_ents 220 16 vc_3560 ve_3560 = true := by decide +kernel
theorem vw_3560 : ∀ q ∈ vk_3560, vm_wt 2 q := vm_wts (vm_kc (vm_up v_572 rfl) (vm_kc (vm_up v_3559 rfl) vm_kn)) (by decide +kernel)
theorem v_3560 : vm_at 3 q_3560 := vm_ok (inl := []) (es := ve_3560) bq_220 (by decide) vw_3560 vy_3560 (fun i => vm_hc vx_3560_0 rfl (fun h => absurd h (Nat.not_lt_zero _))) _ List.mem_cons_self
noncomputable def vp_3561 : List vm_R := [(some (.inl (.ofNat 0, .ofNat 0)), va_h0)]
noncomputable def ve_3561 : List vm_E := [([.inl (.ofNat 1, .ofNat 1), .inl (.ofNat 3, .ofNat 2147483647)], va_h0, 0, [0])]
noncomputable def q_3561 : vm_Q := (220, [.inl (.ofNat 1, .ofNat 1), .inl (.ofNat 3, .ofNat 2147483647)], va_h0, vp_3561)
noncomputable def vk_3561 : List vm_U := [(q_573, true, []), (q_3559, true, [])]
noncomputable def vf_3561 : List ((Nat → am_I) → vm_A) := [fun v => (0, [(0, .inl (.ofNat 1, .ofNat 1)), (1, .inl (.ofNat 3, .ofNat 2147483647))], [], (80, []))]
noncomputable def vd_3561_0_0 : List (List Nat) := [[0]]
noncomputable def vd_3561_0 : List (List (List Nat)) := [vd_3561_0_0]
noncomputable def vd_3561 : List (List (List (List Nat))) := [vd_3561_0]
noncomputable def vt_3561 : List (List am_I) := []
noncomputable def vc_3561 : vm_C := (fun _ => vp_3561, fun pc => [], [], 1, vm_inst 8 1 vt_3561 vf_3561 vd_3561)
theorem vx_3561_0 : vm_chk bt_220 [] vk_3561 16 vc_3561 0 1 = true := by decide +kernel
theorem vy_3561 : vm_ents 220 16 vc_3561 ve_3561 = true := by decide +kernel
theorem vw_3561 : ∀ q ∈ vk_3561, vm_wt 2 q := vm_wts (vm_kc (vm_up v_573 rfl) (vm_kc (vm_up v_3559 rfl) vm_kn)) (by decide +kernel)
theorem v_3561 : vm_at 3 q_3561 := vm_ok (inl := []) (es := ve_3561) bq_220 (by decide) vw_3561 vy_3561 (fun i => vm_hc vx_3561_0 rfl (fun h => absurd h (Nat.not_lt_zero _))) _ List.mem_cons_self
noncomputable def vp_3562 : List vm_R := [(some (.inl (.ofNat 0, .ofNat 0)), va_h0)]
noncomputable def ve_3562 : List vm_E := [([.inl (.ofNat 2, .ofNat 2), .inl (.ofNat 3, .ofNat 2147483647)], va_h0, 0, [0])]
noncomputable def q_3562 : vm_Q := (220, [.inl (.ofNat 2, .ofNat 2), .inl (.ofNat 3, .ofNat 2147483647)], va_h0, vp_3562)
noncomputable def vk_3562 : List vm_U := [(q_574, true, []), (q_3559, true, [])]
noncomputable def vf_3562 : List ((Nat → am_I) → vm_A) := [fun v => (0, [(0, .inl (.ofNat 2, .ofNat 2)), (1, .inl (.ofNat 3, .ofNat 2147483647))], [], (80, []))]
noncomputable def vd_3562_0_0 : List (List Nat) := [[0]]
noncomputable def vd_3562_0 : List (List (List Nat)) := [vd_3562_0_0]
noncomputable def vd_3562 : List (List (List (List Nat))) := [vd_3562_0]
noncomputable def vt_3562 : List (List am_I) := []
noncomputable def vc_3562 : vm_C := (fun _ => vp_3562, fun pc => [], [], 1, vm_inst 8 1 vt_3562 vf_3562 vd_3562)
theorem vx_3562_0 : vm_chk bt_220 [] vk_3562 16 vc_3562 0 1 = true := by decide +kernel
theorem vy_3562 : vm_ents 220 16 vc_3562 ve_3562 = true := by decide +kernel
theorem vw_3562 : ∀ q ∈ vk_3562, vm_wt 2 q := vm_wts (vm_kc (vm_up v_574 rfl) (vm_kc (vm_up v_3559 rfl) vm_kn)) (by decide +kernel)
theorem v_3562 : vm_at 3 q_3562 := vm_ok (inl := []) (es := ve_3562) bq_220 (by decide) vw_3562 vy_3562 (fun i => vm_hc vx_3562_0 rfl (fun h => absurd h (Nat.not_lt_zero _))) _ List.mem_cons_self
noncomputable def vp_3563 : List vm_R := [(some (.inl (.ofNat 0, .ofNat 0)), va_h0)]
noncomputable def ve_3563 : List vm_E := [([.inl (.ofNat 3, .ofNat 3), .inl (.ofNat 3, .ofNat 2147483647)], va_h0, 0, [0])]
noncomputable def q_3563 : vm_Q := (220, [.inl (.ofNat 3, .ofNat 3), .inl (.ofNat 3, .ofNat 2147483647)], va_h0, vp_3563)
noncomputable def vk_3563 : List vm_U := [(q_575, true, []), (q_3559, true, [])]
noncomputable def vf_3563 : List ((Nat → am_I) → vm_A) := [fun v => (0, [(0, .inl (.ofNat 3, .ofNat 3)), (1, .inl (.ofNat 3, .ofNat 2147483647))], [], (80, []))]
noncomputable def vd_3563_0_0 : List (List Nat) := [[0]]
noncomputable def vd_3563_0 : List (List (List Nat)) := [vd_3563_0_0]
noncomputable def vd_3563 : List (List (List (List Nat))) := [vd_3563_0]
noncomputable def vt_3563 : List (List am_I) := []
noncomputable def vc_3563 : vm_C := (fun _ => vp_3563, fun pc => [], [], 1, vm_inst 8 1 vt_3563 vf_3563 vd_3563)
theorem vx_3563_0 : vm_chk bt_220 [] vk_3563 16 vc_3563 0 1 = true := by decide +kernel
theorem vy_3563 : vm_ents 220 16 vc_3563 ve_3563 = true := by decide +kernel
theorem vw_3563 : ∀ q ∈ vk_3563, vm_wt 2 q := vm_wts (vm_kc (vm_up v_575 rfl) (vm_kc (vm_up v_3559 rfl) vm_kn)) (by decide +kernel)
theorem v_3563 : vm_at 3 q_3563 := vm_ok (inl := []) (es := ve_3563) bq_220 (by decide) vw_3563 vy_3563 (fun i => vm_hc vx_3563_0 rfl (fun h => absurd h (Nat.not_lt_zero _))) _ List.mem_cons_self
noncomputable def vp_3564 : List vm_R := [(some (.inl (.negSucc 0, .negSucc 0)), va_h0)]
noncomputable def ve_3564 : List vm_E := [([.inr (.inr (some 70)), .inl (.ofNat 0, .ofNat 3), .inl (.ofNat 3, .ofNat 2147483647), .inl (.negSucc 2147483647, .negSucc 0)], va_h0, 0, [0, 1, 2, 3])]
noncomputable def q_3564 : vm_Q := (219, [.inr (.inr (some 70)), .inl (.ofNat 0, .ofNat 3), .inl (.ofNat 3, .ofNat 2147483647), .inl (.negSucc 2147483647, .negSucc 0)], va_h0, vp_3564)
noncomputable def vk_3564 : List vm_U := [(q_3560, true, []), (q_3561, true, []), (q_3562, true, []), (q_3563, true, [])]
noncomputable def vf_3564 : List ((Nat → am_I) → vm_A) := [fun v => (0, [(0, .inr (.inr (some 70))), (1, .inl (v 0)), (2, .inl (.ofNat 3, .ofNat 2147483647)), (3, .inl (.negSucc 2147483647, .negSucc 0))], [], (80, []))]
noncomputable def vd_3564_0_0 : List (List Nat) := [[50331648, 33554432, 16777216, 0]]
noncomputable def vd_3564_0 : List (List (List Nat)) := [vd_3564_0_0]
noncomputable def vd_3564 : List (List (List (List Nat))) := [vd_3564_0]
noncomputable def vt_3564 : List (List am_I) := []
noncomputable def vc_3564 : vm_C := (fun _ => vp_3564, fun pc => (match Nat.beq pc 0 with
  | true => [(fun _ _ => some (.inl 1), fun _ _ => some [.ofNat 0, .ofNat 1, .ofNat 2, .ofNat 3, .ofNat 4])]
  | false => []), [40], 4, vm_inst 8 4 vt_3564 vf_3564 vd_3564)
theorem vx_3564_0 : vm_chk bt_219 [] vk_3564 8 vc_3564 0 4 = true := by decide +kernel
theorem vy_3564 : vm_ents 219 8 vc_3564 ve_3564 = true := by decide +kernel
theorem vw_3564 : ∀ q ∈ vk_3564, vm_wt 3 q := vm_wts (vm_kc (vm_up v_3560 rfl) (vm_kc (vm_up v_3561 rfl) (vm_kc (vm_up v_3562 rfl) (vm_kc (vm_up v_3563 rfl) vm_kn)))) (by decide +kernel)
theorem v_3564 : vm_at 4 q_3564 := vm_ok (inl := []) (es := ve_3564) bq_219 (by decide) vw_3564 vy_3564 (fun i => vm_hc vx_3564_0 rfl (fun h => absurd h (Nat.not_lt_zero _))) _ List.mem_cons_self
noncomputable def vp_3565 : List vm_R := [(some (.inl (.negSucc 0, .negSucc 0)), va_h0)]
noncomputable def ve_3565 : List vm_E := [([.inr (.inr (some 8)), .inl (.ofNat 0, .ofNat 3), .inl (.ofNat 3, .ofNat 2147483647), .inl (.ofNat 0, .ofNat 40)], va_h0, 0, [0, 1, 2, 3])]
noncomputable def q_3565 : vm_Q := (130, [.inr (.inr (some 8)), .inl (.ofNat 0, .ofNat 3), .inl (.ofNat 3, .ofNat 2147483647), .inl (.ofNat 0, .ofNat 40)], va_h0, vp_3565)
noncomputable def vk_3565 : List vm_U := [(q_298, true, []), (q_300, true, []), (q_301, true, []), (q_302, true, []), (q_3557, true, [])]
noncomputable def vf_3565 : List ((Nat → am_I) → vm_A) := [fun v => (0, [(0, .inr (.inr (some 8))), (1, .inl (v 0)), (2, .inl (.ofNat 3, .ofNat 2147483647)), (3, .inl (.ofNat 0, .ofNat 40))], [], (80, []))]
noncomputable def vd_3565_0_0 : List (List Nat) := [[50331648, 33554432, 16777216, 0]]
noncomputable def vd_3565_0 : List (List (List Nat)) := [vd_3565_0_0]
noncomputable def vd_3565 : List (List (List (List Nat))) := [vd_3565_0]
noncomputable def vt_3565 : List (List am_I) := []
noncomputable def vc_3565 : vm_C := (fun _ => vp_3565, fun pc => (match Nat.beq pc 0 with
  | true => [(fun _ _ => some (.inl 1), fun _ _ => some [.ofNat 0, .ofNat 1, .ofNat 2, .ofNat 3, .ofNat 4])]
  | false => []), [], 4, vm_inst 8 4 vt_3565 vf_3565 vd_3565)
theorem vx_3565_0 : vm_chk bt_130 [] vk_3565 10 vc_3565 0 4 = true := by decide +kernel
theorem vy_3565 : vm_ents 130 10 vc_3565 ve_3565 = true := by decide +kernel
theorem vw_3565 : ∀ q ∈ vk_3565, vm_wt 2 q := vm_wts (vm_kc (vm_up v_298 rfl) (vm_kc (vm_up v_300 rfl) (vm_kc (vm_up v_301 rfl) (vm_kc (vm_up v_302 rfl) (vm_kc (vm_up v_3557 rfl) vm_kn))))) (by decide +kernel)
theorem v_3565 : vm_at 3 q_3565 := vm_ok (inl := []) (es := ve_3565) bq_130 (by decide) vw_3565 vy_3565 (fun i => vm_hc vx_3565_0 rfl (fun h => absurd h (Nat.not_lt_zero _))) _ List.mem_cons_self
noncomputable def vp_3566 : List vm_R := [(some (.inl (.negSucc 0, .negSucc 0)), va_h0)]
noncomputable def ve_3566 : List vm_E := [([.inr (.inr (some 70)), .inl (.ofNat 0, .ofNat 3), .inl (.ofNat 3, .ofNat 2147483647), .inl (.ofNat 0, .ofNat 40)], va_h0, 0, [0, 1, 2, 3])]
noncomputable def q_3566 : vm_Q := (219, [.inr (.inr (some 70)), .inl (.ofNat 0, .ofNat 3), .inl (.ofNat 3, .ofNat 2147483647), .inl (.ofNat 0, .ofNat 40)], va_h0, vp_3566)
noncomputable def vk_3566 : List vm_U := [(q_3560, true, []), (q_3561, true, []), (q_3562, true, []), (q_3563, true, [])]
noncomputable def vf_3566 : List ((Nat → am_I) → vm_A) := [fun v => (0, [(0, .inr (.inr (some 70))), (1, .inl (v 0)), (2, .inl (.ofNat 3, .ofNat 2147483647)), (3, .inl (.ofNat 0, .ofNat 40))], [], (80, []))]
noncomputable def vd_3566_0_0 : List (List Nat) := [[50331648, 33554432, 16777216, 0]]
noncomputable def vd_3566_0 : List (List (List Nat)) := [vd_3566_0_0]
noncomputable def vd_3566 : List (List (List (List Nat))) := [vd_3566_0]
noncomputable def vt_3566 : List (List am_I) := []
noncomputable def vc_3566 : vm_C := (fun _ => vp_3566, fun pc => (match Nat.beq pc 0 with
  | true => [(fun _ _ => some (.inl 1), fun _ _ => some [.ofNat 0, .ofNat 1, .ofNat 2, .ofNat 3, .ofNat 4])]
  | false => []), [40], 4, vm_inst 8 4 vt_3566 vf_3566 vd_3566)
theorem vx_3566_0 : vm_chk bt_219 [] vk_3566 8 vc_3566 0 4 = true := by decide +kernel
theorem vy_3566 : vm_ents 219 8 vc_3566 ve_3566 = true := by decide +kernel
theorem vw_3566 : ∀ q ∈ vk_3566, vm_wt 3 q := vm_wts (vm_kc (vm_up v_3560 rfl) (vm_kc (vm_up v_3561 rfl) (vm_kc (vm_up v_3562 rfl) (vm_kc (vm_up v_3563 rfl) vm_kn)))) (by decide +kernel)
theorem v_3566 : vm_at 4 q_3566 := vm_ok (inl := []) (es := ve_3566) bq_219 (by decide) vw_3566 vy_3566 (fun i => vm_hc vx_3566_0 rfl (fun h => absurd h (Nat.not_lt_zero _))) _ List.mem_cons_self
noncomputable def vp_3567 : List vm_R := [(some (.inl (.negSucc 0, .negSucc 0)), va_h0)]
noncomputable def ve_3567 : List vm_E := [([.inr (.inr (some 8)), .inl (.ofNat 0, .ofNat 3), .inl (.ofNat 3, .ofNat 2147483647), .inl (.ofNat 41, .ofNat 2147483647)], va_h0, 0, [0, 1, 2, 3])]
noncomputable def q_3567 : vm_Q := (130, [.inr (.inr (some 8)), .inl (.ofNat 0, .ofNat 3), .inl (.ofNat 3, .ofNat 2147483647), .inl (.ofNat 41, .ofNat 2147483647)], va_h0, vp_3567)
noncomputable def vk_3567 : List vm_U := [(q_298, true, []), (q_300, true, []), (q_301, true, []), (q_302, true, []), (q_3557, true, [])]
noncomputable def vf_3567 : List ((Nat → am_I) → vm_A) := [fun v => (0, [(0, .inr (.inr (some 8))), (1, .inl (v 0)), (2, .inl (.ofNat 3, .ofNat 2147483647)), (3, .inl (.ofNat 41, .ofNat 2147483647))], [], (80, []))]
noncomputable def vd_3567_0_0 : List (List Nat) := [[50331648, 33554432, 16777216, 0]]
noncomputable def vd_3567_0 : List (List (List Nat)) := [vd_3567_0_0]
noncomputable def vd_3567 : List (List (List (List Nat))) := [vd_3567_0]
noncomputable def vt_3567 : List (List am_I) := []
noncomputable def vc_3567 : vm_C := (fun _ => vp_3567, fun pc => (match Nat.beq pc 0 with
  | true => [(fun _ _ => some (.inl 1), fun _ _ => some [.ofNat 0, .ofNat 1, .ofNat 2, .ofNat 3, .ofNat 4])]
  | false => []), [], 4, vm_inst 8 4 vt_3567 vf_3567 vd_3567)
theorem vx_3567_0 : vm_chk bt_130 [] vk_3567 10 vc_3567 0 4 = true := by decide +kernel
theorem vy_3567 : vm_ents 130 10 vc_3567 ve_3567 = true := by decide +kernel
theorem vw_3567 : ∀ q ∈ vk_3567, vm_wt 2 q := vm_wts (vm_kc (vm_up v_298 rfl) (vm_kc (vm_up v_300 rfl) (vm_kc (vm_up v_301 rfl) (vm_kc (vm_up v_302 rfl) (vm_kc (vm_up v_3557 rfl) vm_kn))))) (by decide +kernel)
theorem v_3567 : vm_at 3 q_3567 := vm_ok (inl := []) (es := ve_3567) bq_130 (by decide) vw_3567 vy_3567 (fun i => vm_hc vx_3567_0 rfl (fun h => absurd h (Nat.not_lt_zero _))) _ List.mem_cons_self
noncomputable def vp_3568 : List vm_R := [(some (.inl (.negSucc 0, .negSucc 0)), va_h0)]
noncomputable def ve_3568 : List vm_E := [([.inr (.inr (some 70)), .inl (.ofNat 0, .ofNat 3), .inl (.ofNat 3, .ofNat 2147483647), .inl (.ofNat 41, .ofNat 2147483647)], va_h0, 0, [0, 1, 2, 3])]
noncomputable def q_3568 : vm_Q := (219, [.inr (.inr (some 70)), .inl (.ofNat 0, .ofNat 3), .inl (.ofNat 3, .ofNat 2147483647), .inl (.ofNat 41, .ofNat 2147483647)], va_h0, vp_3568)
noncomputable def vk_3568 : List vm_U := [(q_3560, true, []), (q_3561, true, []), (q_3562, true, []), (q_3563, true, [])]
noncomputable def vf_3568 : List ((Nat → am_I) → vm_A) := [fun v => (0, [(0, .inr (.inr (some 70))), (1, .inl (v 0)), (2, .inl (.ofNat 3, .ofNat 2147483647)), (3, .inl (.ofNat 41, .ofNat 2147483647))], [], (80, []))]
noncomputable def vd_3568_0_0 : List (List Nat) := [[50331648, 33554432, 16777216, 0]]
noncomputable def vd_3568_0 : List (List (List Nat)) := [vd_3568_0_0]
noncomputable def vd_3568 : List (List (List (List Nat))) := [vd_3568_0]
noncomputable def vt_3568 : List (List am_I) := []
noncomputable def vc_3568 : vm_C := (fun _ => vp_3568, fun pc => (match Nat.beq pc 0 with
  | true => [(fun _ _ => some (.inl 1), fun _ _ => some [.ofNat 0, .ofNat 1, .ofNat 2, .ofNat 3, .ofNat 4])]
  | false => []), [40], 4, vm_inst 8 4 vt_3568 vf_3568 vd_3568)
theorem vx_3568_0 : vm_chk bt_219 [] vk_3568 8 vc_3568 0 4 = true := by decide +kernel
theorem vy_3568 : vm_ents 219 8 vc_3568 ve_3568 = true := by decide +kernel
theorem vw_3568 : ∀ q ∈ vk_3568, vm_wt 3 q := vm_wts (vm_kc (vm_up v_3560 rfl) (vm_kc (vm_up v_3561 rfl) (vm_kc (vm_up v_3562 rfl) (vm_kc (vm_up v_3563 rfl) vm_kn)))) (by decide +kernel)
theorem v_3568 : vm_at 4 q_3568 := vm_ok (inl := []) (es := ve_3568) bq_219 (by decide) vw_3568 vy_3568 (fun i => vm_hc vx_3568_0 rfl (fun h => absurd h (Nat.not_lt_zero _))) _ List.mem_cons_self
noncomputable def vp_3569 : List vm_R := [(some (.inl (.negSucc 0, .negSucc 0)), va_h0)]
noncomputable def ve_3569 : List vm_E := [([.inr (.inr (some 8)), .inl (.ofNat 4, .ofNat 2147483647), .inl (.negSucc 2147483647, .negSucc 0), .inl (.negSucc 2147483647, .negSucc 0)], va_h0, 0, [0])]
noncomputable def q_3569 : vm_Q := (130, [.inr (.inr (some 8)), .inl (.ofNat 4, .ofNat 2147483647), .inl (.negSucc 2147483647, .negSucc 0), .inl (.negSucc 2147483647, .negSucc 0)], va_h0, vp_3569)
noncomputable def vk_3569 : List vm_U := [(q_303, true, [])]
noncomputable def vf_3569 : List ((Nat → am_I) → vm_A) := [fun v => (0, [(0, .inr (.inr (some 8))), (1, .inl (.ofNat 4, .ofNat 2147483647)), (2, .inl (.negSucc 2147483647, .negSucc 0)), (3, .inl (.negSucc 2147483647, .negSucc 0))], [], (80, []))]
noncomputable def vd_3569_0_0 : List (List Nat) := [[0]]
noncomputable def vd_3569_0 : List (List (List Nat)) := [vd_3569_0_0]
noncomputable def vd_3569 : List (List (List (List Nat))) := [vd_3569_0]
noncomputable def vt_3569 : List (List am_I) := []
noncomputable def vc_3569 : vm_C := (fun _ => vp_3569, fun pc => (match Nat.beq pc 0 with
  | true => [(fun _ _ => some (.inl 1), fun _ _ => some [.ofNat 0, .ofNat 1, .ofNat 2, .ofNat 3, .ofNat 4])]
  | false => []), [], 1, vm_inst 8 1 vt_3569 vf_3569 vd_3569)
theorem vx_3569_0 : vm_chk bt_130 [] vk_3569 7 vc_3569 0 1 = true := by decide +kernel
theorem vy_3569 : vm_ents 130 7 vc_3569 ve_3569 = true := by decide +kernel
theorem vw_3569 : ∀ q ∈ vk_3569, vm_wt 2 q := vm_wts (vm_kc (vm_up v_303 rfl) vm_kn) (by decide +kernel)
theorem v_3569 : vm_at 3 q_3569 := vm_ok (inl := []) (es := ve_3569) bq_130 (by decide) vw_3569 vy_3569 (fun i => vm_hc vx_3569_0 rfl (fun h => absurd h (Nat.not_lt_zero _))) _ List.mem_cons_self
noncomputable def vp_3570 : List vm_R := [(some (.inl (.ofNat 0, .ofNat 0)), va_h0)]
noncomputable def ve_3570 : List vm_E := [([.inl (.ofNat 4, .ofNat 2147483647), .inl (.negSucc 2147483647, .negSucc 0)], va_h0, 0, [0])]
noncomputable def q_3570 : vm_Q := (220, [.inl (.ofNat 4, .ofNat 2147483647), .inl (.negSucc 2147483647, .negSucc 0)], va_h0, vp_3570)
noncomputable def vk_3570 : List vm_U := [(q_576, true, [])]
noncomputable def vf_3570 : List ((Nat → am_I) → vm_A) := [fun v => (0, [(0, .inl (.ofNat 4, .ofNat 2147483647)), (1, .inl (.negSucc 2147483647, .negSucc 0))], [], (80, []))]
noncomputable def vd_3570_0_0 : List (List Nat) := [[0]]
noncomputable def vd_3570_0 : List (List (List Nat)) := [vd_3570_0_0]
noncomputable def vd_3570 : List (List (List (List Nat))) := [vd_3570_0]
noncomputable def vt_3570 : List (List am_I) := []
noncomputable def vc_3570 : vm_C := (fun _ => vp_3570, fun pc => [], [], 1, vm_inst 8 1 vt_3570 vf_3570 vd_3570)
theorem vx_3570_0 : vm_chk bt_220 [] vk_3570 10 vc_3570 0 1 = true := by decide +kernel
theorem vy_3570 : vm_ents 220 10 vc_3570 ve_3570 = true := by decide +kernel
theorem vw_3570 : ∀ q ∈ vk_3570, vm_wt 2 q := vm_wts (vm_kc (vm_up v_576 rfl) vm_kn) (by decide +kernel)
theorem v_3570 : vm_at 3 q_3570 := vm_ok (inl := []) (es := ve_3570) bq_220 (by decide) vw_3570 vy_3570 (fun i => vm_hc vx_3570_0 rfl (fun h => absurd h (Nat.not_lt_zero _))) _ List.mem_cons_self
noncomputable def vp_3571 : List vm_R := [(some (.inl (.negSucc 0, .negSucc 0)), va_h0)]
noncomputable def ve_3571 : List vm_E := [([.inr (.inr (some 70)), .inl (.ofNat 4, .ofNat 2147483647), .inl (.negSucc 2147483647, .negSucc 0), .inl (.negSucc 2147483647, .negSucc 0)], va_h0, 0, [0])]
noncomputable def q_3571 : vm_Q := (219, [.inr (.inr (some 70)), .inl (.ofNat 4, .ofNat 2147483647), .inl (.negSucc 2147483647, .negSucc 0), .inl (.negSucc 2147483647, .negSucc 0)], va_h0, vp_3571)
noncomputable def vk_3571 : List vm_U := [(q_3570, true, [])]
noncomputable def vf_3571 : List ((Nat → am_I) → vm_A) := [fun v => (0, [(0, .inr (.inr (some 70))), (1, .inl (.ofNat 4, .ofNat 2147483647)), (2, .inl (.negSucc 2147483647, .negSucc 0)), (3, .inl (.negSucc 2147483647, .negSucc 0))], [], (80, []))]
noncomputable def vd_3571_0_0 : List (List Nat) := [[0]]
noncomputable def vd_3571_0 : List (List (List Nat)) := [vd_3571_0_0]
noncomputable def vd_3571 : List (List (List (List Nat))) := [vd_3571_0]
noncomputable def vt_3571 : List (List am_I) := []
noncomputable def vc_3571 : vm_C := (fun _ => vp_3571, fun pc => (match Nat.beq pc 0 with
  | true => [(fun _ _ => some (.inl 1), fun _ _ => some [.ofNat 0, .ofNat 1, .ofNat 2, .ofNat 3, .ofNat 4])]
  | false => []), [40], 1, vm_inst 8 1 vt_3571 vf_3571 vd_3571)
theorem vx_3571_0 : vm_chk bt_219 [] vk_3571 8 vc_3571 0 1 = true := by decide +kernel
theorem vy_3571 : vm_ents 219 8 vc_3571 ve_3571 = true := by decide +kernel
theorem vw_3571 : ∀ q ∈ vk_3571, vm_wt 3 q := vm_wts (vm_kc (vm_up v_3570 rfl) vm_kn) (by decide +kernel)
theorem v_3571 : vm_at 4 q_3571 := vm_ok (inl := []) (es := ve_3571) bq_219 (by decide) vw_3571 vy_3571 (fun i => vm_hc vx_3571_0 rfl (fun h => absurd h (Nat.not_lt_zero _))) _ List.mem_cons_self
noncomputable def vp_3572 : List vm_R := [(some (.inl (.negSucc 0, .negSucc 0)), va_h0)]
noncomputable def ve_3572 : List vm_E := [([.inr (.inr (some 8)), .inl (.ofNat 4, .ofNat 2147483647), .inl (.negSucc 2147483647, .negSucc 0), .inl (.ofNat 0, .ofNat 40)], va_h0, 0, [0])]
noncomputable def q_3572 : vm_Q := (130, [.inr (.inr (some 8)), .inl (.ofNat 4, .ofNat 2147483647), .inl (.negSucc 2147483647, .negSucc 0), .inl (.ofNat 0, .ofNat 40)], va_h0, vp_3572)
noncomputable def vk_3572 : List vm_U := [(q_303, true, [])]
noncomputable def vf_3572 : List ((Nat → am_I) → vm_A) := [fun v => (0, [(0, .inr (.inr (some 8))), (1, .inl (.ofNat 4, .ofNat 2147483647)), (2, .inl (.negSucc 2147483647, .negSucc 0)), (3, .inl (.ofNat 0, .ofNat 40))], [], (80, []))]
noncomputable def vd_3572_0_0 : List (List Nat) := [[0]]
noncomputable def vd_3572_0 : List (List (List Nat)) := [vd_3572_0_0]
noncomputable def vd_3572 : List (List (List (List Nat))) := [vd_3572_0]
noncomputable def vt_3572 : List (List am_I) := []
noncomputable def vc_3572 : vm_C := (fun _ => vp_3572, fun pc => (match Nat.beq pc 0 with
  | true => [(fun _ _ => some (.inl 1), fun _ _ => some [.ofNat 0, .ofNat 1, .ofNat 2, .ofNat 3, .ofNat 4])]
  | false => []), [], 1, vm_inst 8 1 vt_3572 vf_3572 vd_3572)
theorem vx_3572_0 : vm_chk bt_130 [] vk_3572 7 vc_3572 0 1 = true := by decide +kernel
theorem vy_3572 : vm_ents 130 7 vc_3572 ve_3572 = true := by decide +kernel
theorem vw_3572 : ∀ q ∈ vk_3572, vm_wt 2 q := vm_wts (vm_kc (vm_up v_303 rfl) vm_kn) (by decide +kernel)
theorem v_3572 : vm_at 3 q_3572 := vm_ok (inl := []) (es := ve_3572) bq_130 (by decide) vw_3572 vy_3572 (fun i => vm_hc vx_3572_0 rfl (fun h => absurd h (Nat.not_lt_zero _))) _ List.mem_cons_self
noncomputable def vp_3573 : List vm_R := [(some (.inl (.negSucc 0, .negSucc 0)), va_h0)]
noncomputable def ve_3573 : List vm_E := [([.inr (.inr (some 70)), .inl (.ofNat 4, .ofNat 2147483647), .inl (.negSucc 2147483647, .negSucc 0), .inl (.ofNat 0, .ofNat 40)], va_h0, 0, [0])]
noncomputable def q_3573 : vm_Q := (219, [.inr (.inr (some 70)), .inl (.ofNat 4, .ofNat 2147483647), .inl (.negSucc 2147483647, .negSucc 0), .inl (.ofNat 0, .ofNat 40)], va_h0, vp_3573)
noncomputable def vk_3573 : List vm_U := [(q_3570, true, [])]
noncomputable def vf_3573 : List ((Nat → am_I) → vm_A) := [fun v => (0, [(0, .inr (.inr (some 70))), (1, .inl (.ofNat 4, .ofNat 2147483647)), (2, .inl (.negSucc 2147483647, .negSucc 0)), (3, .inl (.ofNat 0, .ofNat 40))], [], (80, []))]
noncomputable def vd_3573_0_0 : List (List Nat) := [[0]]
noncomputable def vd_3573_0 : List (List (List Nat)) := [vd_3573_0_0]
noncomputable def vd_3573 : List (List (List (List Nat))) := [vd_3573_0]
noncomputable def vt_3573 : List (List am_I) := []
noncomputable def vc_3573 : vm_C := (fun _ => vp_3573, fun pc => (match Nat.beq pc 0 with
  | true => [(fun _ _ => some (.inl 1), fun _ _ => some [.ofNat 0, .ofNat 1, .ofNat 2, .ofNat 3, .ofNat 4])]
  | false => []), [40], 1, vm_inst 8 1 vt_3573 vf_3573 vd_3573)
theorem vx_3573_0 : vm_chk bt_219 [] vk_3573 8 vc_3573 0 1 = true := by decide +kernel
theorem vy_3573 : vm_ents 219 8 vc_3573 ve_3573 = true := by decide +kernel
theorem vw_3573 : ∀ q ∈ vk_3573, vm_wt 3 q := vm_wts (vm_kc (vm_up v_3570 rfl) vm_kn) (by decide +kernel)
theorem v_3573 : vm_at 4 q_3573 := vm_ok (inl := []) (es := ve_3573) bq_219 (by decide) vw_3573 vy_3573 (fun i => vm_hc vx_3573_0 rfl (fun h => absurd h (Nat.not_lt_zero _))) _ List.mem_cons_self
noncomputable def vp_3574 : List vm_R := [(some (.inl (.negSucc 0, .negSucc 0)), va_h0)]
noncomputable def ve_3574 : List vm_E := [([.inr (.inr (some 8)), .inl (.ofNat 4, .ofNat 2147483647), .inl (.negSucc 2147483647, .negSucc 0), .inl (.ofNat 41, .ofNat 2147483647)], va_h0, 0, [0])]
noncomputable def q_3574 : vm_Q := (130, [.inr (.inr (some 8)), .inl (.ofNat 4, .ofNat 2147483647), .inl (.negSucc 2147483647, .negSucc 0), .inl (.ofNat 41, .ofNat 2147483647)], va_h0, vp_3574)
noncomputable def vk_3574 : List vm_U := [(q_303, true, [])]
noncomputable def vf_3574 : List ((Nat → am_I) → vm_A) := [fun v => (0, [(0, .inr (.inr (some 8))), (1, .inl (.ofNat 4, .ofNat 2147483647)), (2, .inl (.negSucc 2147483647, .negSucc 0)), (3, .inl (.ofNat 41, .ofNat 2147483647))], [], (80, []))]
noncomputable def vd_3574_0_0 : List (List Nat) := [[0]]
noncomputable def vd_3574_0 : List (List (List Nat)) := [vd_3574_0_0]
noncomputable def vd_3574 : List (List (List (List Nat))) := [vd_3574_0]
noncomputable def vt_3574 : List (List am_I) := []
noncomputable def vc_3574 : vm_C := (fun _ => vp_3574, fun pc => (match Nat.beq pc 0 with
  | true => [(fun _ _ => some (.inl 1), fun _ _ => some [.ofNat 0, .ofNat 1, .ofNat 2, .ofNat 3, .ofNat 4])]
  | false => []), [], 1, vm_inst 8 1 vt_3574 vf_3574 vd_3574)
theorem vx_3574_0 : vm_chk bt_130 [] vk_3574 7 vc_3574 0 1 = true := by decide +kernel
theorem vy_3574 : vm_ents 130 7 vc_3574 ve_3574 = true := by decide +kernel
theorem vw_3574 : ∀ q ∈ vk_3574, vm_wt 2 q := vm_wts (vm_kc (vm_up v_303 rfl) vm_kn) (by decide +kernel)
theorem v_3574 : vm_at 3 q_3574 := vm_ok (inl := []) (es := ve_3574) bq_130 (by decide) vw_3574 vy_3574 (fun i => vm_hc vx_3574_0 rfl (fun h => absurd h (Nat.not_lt_zero _))) _ List.mem_cons_self
noncomputable def vp_3575 : List vm_R := [(some (.inl (.negSucc 0, .negSucc 0)), va_h0)]
noncomputable def ve_3575 : List vm_E := [([.inr (.inr (some 70)), .inl (.ofNat 4, .ofNat 2147483647), .inl (.negSucc 2147483647, .negSucc 0), .inl (.ofNat 41, .ofNat 2147483647)], va_h0, 0, [0])]
noncomputable def q_3575 : vm_Q := (219, [.inr (.inr (some 70)), .inl (.ofNat 4, .ofNat 2147483647), .inl (.negSucc 2147483647, .negSucc 0), .inl (.ofNat 41, .ofNat 2147483647)], va_h0, vp_3575)
noncomputable def vk_3575 : List vm_U := [(q_3570, true, [])]
noncomputable def vf_3575 : List ((Nat → am_I) → vm_A) := [fun v => (0, [(0, .inr (.inr (some 70))), (1, .inl (.ofNat 4, .ofNat 2147483647)), (2, .inl (.negSucc 2147483647, .negSucc 0)), (3, .inl (.ofNat 41, .ofNat 2147483647))], [], (80, []))]
noncomputable def vd_3575_0_0 : List (List Nat) := [[0]]
noncomputable def vd_3575_0 : List (List (List Nat)) := [vd_3575_0_0]
noncomputable def vd_3575 : List (List (List (List Nat))) := [vd_3575_0]
noncomputable def vt_3575 : List (List am_I) := []
noncomputable def vc_3575 : vm_C := (fun _ => vp_3575, fun pc => (match Nat.beq pc 0 with
  | true => [(fun _ _ => some (.inl 1), fun _ _ => some [.ofNat 0, .ofNat 1, .ofNat 2, .ofNat 3, .ofNat 4])]
  | false => []), [40], 1, vm_inst 8 1 vt_3575 vf_3575 vd_3575)
theorem vx_3575_0 : vm_chk bt_219 [] vk_3575 8 vc_3575 0 1 = true := by decide +kernel
theorem vy_3575 : vm_ents 219 8 vc_3575 ve_3575 = true := by decide +kernel
theorem vw_3575 : ∀ q ∈ vk_3575, vm_wt 3 q := vm_wts (vm_kc (vm_up v_3570 rfl) vm_kn) (by decide +kernel)
theorem v_3575 : vm_at 4 q_3575 := vm_ok (inl := []) (es := ve_3575) bq_219 (by decide) vw_3575 vy_3575 (fun i => vm_hc vx_3575_0 rfl (fun h => absurd h (Nat.not_lt_zero _))) _ List.mem_cons_self
noncomputable def vp_3576 : List vm_R := [(some (.inl (.negSucc 0, .negSucc 0)), va_h0)]
noncomputable def ve_3576 : List vm_E := [([.inr (.inr (some 8)), .inl (.ofNat 4, .ofNat 2147483647), .inl (.ofNat 0, .ofNat 2), .inl (.negSucc 2147483647, .negSucc 0)], va_h0, 0, [0])]
noncomputable def q_3576 : vm_Q := (130, [.inr (.inr (some 8)), .inl (.ofNat 4, .ofNat 2147483647), .inl (.ofNat 0, .ofNat 2), .inl (.negSucc 2147483647, .negSucc 0)], va_h0, vp_3576)
noncomputable def vk_3576 : List vm_U := [(q_303, true, [])]
noncomputable def vf_3576 : List ((Nat → am_I) → vm_A) := [fun v => (0, [(0, .inr (.inr (some 8))), (1, .inl (.ofNat 4, .ofNat 2147483647)), (2, .inl (.ofNat 0, .ofNat 2)), (3, .inl (.negSucc 2147483647, .negSucc 0))], [], (80, []))]
noncomputable def vd_3576_0_0 : List (List Nat) := [[0]]
noncomputable def vd_3576_0 : List (List (List Nat)) := [vd_3576_0_0]
noncomputable def vd_3576 : List (List (List (List Nat))) := [vd_3576_0]
noncomputable def vt_3576 : List (List am_I) := []
noncomputable def vc_3576 : vm_C := (fun _ => vp_3576, fun pc => (match Nat.beq pc 0 with
  | true => [(fun _ _ => some (.inl 1), fun _ _ => some [.ofNat 0, .ofNat 1, .ofNat 2, .ofNat 3, .ofNat 4])]
  | false => []), [], 1, vm_inst 8 1 vt_3576 vf_3576 vd_3576)
theorem vx_3576_0 : vm_chk bt_130 [] vk_3576 7 vc_3576 0 1 = true := by decide +kernel
theorem vy_3576 : vm_ents 130 7 vc_3576 ve_3576 = true := by decide +kernel
theorem vw_3576 : ∀ q ∈ vk_3576, vm_wt 2 q := vm_wts (vm_kc (vm_up v_303 rfl) vm_kn) (by decide +kernel)
theorem v_3576 : vm_at 3 q_3576 := vm_ok (inl := []) (es := ve_3576) bq_130 (by decide) vw_3576 vy_3576 (fun i => vm_hc vx_3576_0 rfl (fun h => absurd h (Nat.not_lt_zero _))) _ List.mem_cons_self
noncomputable def vp_3577 : List vm_R := [(some (.inl (.ofNat 0, .ofNat 0)), va_h0)]
noncomputable def ve_3577 : List vm_E := [([.inl (.ofNat 4, .ofNat 2147483647), .inl (.ofNat 0, .ofNat 2)], va_h0, 0, [0])]
noncomputable def q_3577 : vm_Q := (220, [.inl (.ofNat 4, .ofNat 2147483647), .inl (.ofNat 0, .ofNat 2)], va_h0, vp_3577)
noncomputable def vk_3577 : List vm_U := [(q_576, true, [])]
noncomputable def vf_3577 : List ((Nat → am_I) → vm_A) := [fun v => (0, [(0, .inl (.ofNat 4, .ofNat 2147483647)), (1, .inl (.ofNat 0, .ofNat 2))], [], (80, []))]
noncomputable def vd_3577_0_0 : List (List Nat) := [[0]]
noncomputable def vd_3577_0 : List (List (List Nat)) := [vd_3577_0_0]
noncomputable def vd_3577 : List (List (List (List Nat))) := [vd_3577_0]
noncomputable def vt_3577 : List (List am_I) := []
noncomputable def vc_3577 : vm_C := (fun _ => vp_3577, fun pc => [], [], 1, vm_inst 8 1 vt_3577 vf_3577 vd_3577)
theorem vx_3577_0 : vm_chk bt_220 [] vk_3577 10 vc_3577 0 1 = true := by decide +kernel
theorem vy_3577 : vm_ents 220 10 vc_3577 ve_3577 = true := by decide +kernel
theorem vw_3577 : ∀ q ∈ vk_3577, vm_wt 2 q := vm_wts (vm_kc (vm_up v_576 rfl) vm_kn) (by decide +kernel)
theorem v_3577 : vm_at 3 q_3577 := vm_ok (inl := []) (es := ve_3577) bq_220 (by decide) vw_3577 vy_3577 (fun i => vm_hc vx_3577_0 rfl (fun h => absurd h (Nat.not_lt_zero _))) _ List.mem_cons_self
noncomputable def vp_3578 : List vm_R := [(some (.inl (.negSucc 0, .negSucc 0)), va_h0)]
noncomputable def ve_3578 : List vm_E := [([.inr (.inr (some 70)), .inl (.ofNat 4, .ofNat 2147483647), .inl (.ofNat 0, .ofNat 2), .inl (.negSucc 2147483647, .negSucc 0)], va_h0, 0, [0])]
noncomputable def q_3578 : vm_Q := (219, [.inr (.inr (some 70)), .inl (.ofNat 4, .ofNat 2147483647), .inl (.ofNat 0, .ofNat 2), .inl (.negSucc 2147483647, .negSucc 0)], va_h0, vp_3578)
noncomputable def vk_3578 : List vm_U := [(q_3577, true, [])]
noncomputable def vf_3578 : List ((Nat → am_I) → vm_A) := [fun v => (0, [(0, .inr (.inr (some 70))), (1, .inl (.ofNat 4, .ofNat 2147483647)), (2, .inl (.ofNat 0, .ofNat 2)), (3, .inl (.negSucc 2147483647, .negSucc 0))], [], (80, []))]
noncomputable def vd_3578_0_0 : List (List Nat) := [[0]]
noncomputable def vd_3578_0 : List (List (List Nat)) := [vd_3578_0_0]
noncomputable def vd_3578 : List (List (List (List Nat))) := [vd_3578_0]
noncomputable def vt_3578 : List (List am_I) := []
noncomputable def vc_3578 : vm_C := (fun _ => vp_3578, fun pc => (match Nat.beq pc 0 with
  | true => [(fun _ _ => some (.inl 1), fun _ _ => some [.ofNat 0, .ofNat 1, .ofNat 2, .ofNat 3, .ofNat 4])]
  | false => []), [40], 1, vm_inst 8 1 vt_3578 vf_3578 vd_3578)
theorem vx_3578_0 : vm_chk bt_219 [] vk_3578 8 vc_3578 0 1 = true := by decide +kernel
theorem vy_3578 : vm_ents 219 8 vc_3578 ve_3578 = true := by decide +kernel
theorem vw_3578 : ∀ q ∈ vk_3578, vm_wt 3 q := vm_wts (vm_kc (vm_up v_3577 rfl) vm_kn) (by decide +kernel)
theorem v_3578 : vm_at 4 q_3578 := vm_ok (inl := []) (es := ve_3578) bq_219 (by decide) vw_3578 vy_3578 (fun i => vm_hc vx_3578_0 rfl (fun h => absurd h (Nat.not_lt_zero _))) _ List.mem_cons_self
noncomputable def vp_3579 : List vm_R := [(some (.inl (.negSucc 0, .negSucc 0)), va_h0)]
noncomputable def ve_3579 : List vm_E := [([.inr (.inr (some 8)), .inl (.ofNat 4, .ofNat 2147483647), .inl (.ofNat 0, .ofNat 2), .inl (.ofNat 0, .ofNat 40)], va_h0, 0, [0])]
noncomputable def q_3579 : vm_Q := (130, [.inr (.inr (some 8)), .inl (.ofNat 4, .ofNat 2147483647), .inl (.ofNat 0, .ofNat 2), .inl (.ofNat 0, .ofNat 40)], va_h0, vp_3579)
noncomputable def vk_3579 : List vm_U := [(q_303, true, [])]
noncomputable def vf_3579 : List ((Nat → am_I) → vm_A) := [fun v => (0, [(0, .inr (.inr (some 8))), (1, .inl (.ofNat 4, .ofNat 2147483647)), (2, .inl (.ofNat 0, .ofNat 2)), (3, .inl (.ofNat 0, .ofNat 40))], [], (80, []))]
noncomputable def vd_3579_0_0 : List (List Nat) := [[0]]
noncomputable def vd_3579_0 : List (List (List Nat)) := [vd_3579_0_0]
noncomputable def vd_3579 : List (List (List (List Nat))) := [vd_3579_0]
noncomputable def vt_3579 : List (List am_I) := []
noncomputable def vc_3579 : vm_C := (fun _ => vp_3579, fun pc => (match Nat.beq pc 0 with
  | true => [(fun _ _ => some (.inl 1), fun _ _ => some [.ofNat 0, .ofNat 1, .ofNat 2, .ofNat 3, .ofNat 4])]
  | false => []), [], 1, vm_inst 8 1 vt_3579 vf_3579 vd_3579)
theorem vx_3579_0 : vm_chk bt_130 [] vk_3579 7 vc_3579 0 1 = true := by decide +kernel
theorem vy_3579 : vm_ents 130 7 vc_3579 ve_3579 = true := by decide +kernel
theorem vw_3579 : ∀ q ∈ vk_3579, vm_wt 2 q := vm_wts (vm_kc (vm_up v_303 rfl) vm_kn) (by decide +kernel)
theorem v_3579 : vm_at 3 q_3579 := vm_ok (inl := []) (es := ve_3579) bq_130 (by decide) vw_3579 vy_3579 (fun i => vm_hc vx_3579_0 rfl (fun h => absurd h (Nat.not_lt_zero _))) _ List.mem_cons_self
noncomputable def vp_3580 : List vm_R := [(some (.inl (.negSucc 0, .negSucc 0)), va_h0)]
noncomputable def ve_3580 : List vm_E := [([.inr (.inr (some 70)), .inl (.ofNat 4, .ofNat 2147483647), .inl (.ofNat 0, .ofNat 2), .inl (.ofNat 0, .ofNat 40)], va_h0, 0, [0])]
noncomputable def q_3580 : vm_Q := (219, [.inr (.inr (some 70)), .inl (.ofNat 4, .ofNat 2147483647), .inl (.ofNat 0, .ofNat 2), .inl (.ofNat 0, .ofNat 40)], va_h0, vp_3580)
noncomputable def vk_3580 : List vm_U := [(q_3577, true, [])]
noncomputable def vf_3580 : List ((Nat → am_I) → vm_A) := [fun v => (0, [(0, .inr (.inr (some 70))), (1, .inl (.ofNat 4, .ofNat 2147483647)), (2, .inl (.ofNat 0, .ofNat 2)), (3, .inl (.ofNat 0, .ofNat 40))], [], (80, []))]
noncomputable def vd_3580_0_0 : List (List Nat) := [[0]]
noncomputable def vd_3580_0 : List (List (List Nat)) := [vd_3580_0_0]
noncomputable def vd_3580 : List (List (List (List Nat))) := [vd_3580_0]
noncomputable def vt_3580 : List (List am_I) := []
noncomputable def vc_3580 : vm_C := (fun _ => vp_3580, fun pc => (match Nat.beq pc 0 with
  | true => [(fun _ _ => some (.inl 1), fun _ _ => some [.ofNat 0, .ofNat 1, .ofNat 2, .ofNat 3, .ofNat 4])]
  | false => []), [40], 1, vm_inst 8 1 vt_3580 vf_3580 vd_3580)
theorem vx_3580_0 : vm_chk bt_219 [] vk_3580 8 vc_3580 0 1 = true := by decide +kernel
theorem vy_3580 : vm_ents 219 8 vc_3580 ve_3580 = true := by decide +kernel
theorem vw_3580 : ∀ q ∈ vk_3580, vm_wt 3 q := vm_wts (vm_kc (vm_up v_3577 rfl) vm_kn) (by decide +kernel)
theorem v_3580 : vm_at 4 q_3580 := vm_ok (inl := []) (es := ve_3580) bq_219 (by decide) vw_3580 vy_3580 (fun i => vm_hc vx_3580_0 rfl (fun h => absurd h (Nat.not_lt_zero _))) _ List.mem_cons_self
noncomputable def vp_3581 : List vm_R := [(some (.inl (.negSucc 0, .negSucc 0)), va_h0)]
noncomputable def ve_3581 : List vm_E := [([.inr (.inr (some 8)), .inl (.ofNat 4, .ofNat 2147483647), .inl (.ofNat 0, .ofNat 2), .inl (.ofNat 41, .ofNat 2147483647)], va_h0, 0, [0])]
noncomputable def q_3581 : vm_Q := (130, [.inr (.inr (some 8)), .inl (.ofNat 4, .ofNat 2147483647), .inl (.ofNat 0, .ofNat 2), .inl (.ofNat 41, .ofNat 2147483647)], va_h0, vp_3581)
noncomputable def vk_3581 : List vm_U := [(q_303, true, [])]
noncomputable def vf_3581 : List ((Nat → am_I) → vm_A) := [fun v => (0, [(0, .inr (.inr (some 8))), (1, .inl (.ofNat 4, .ofNat 2147483647)), (2, .inl (.ofNat 0, .ofNat 2)), (3, .inl (.ofNat 41, .ofNat 2147483647))], [], (80, []))]
noncomputable def vd_3581_0_0 : List (List Nat) := [[0]]
noncomputable def vd_3581_0 : List (List (List Nat)) := [vd_3581_0_0]
noncomputable def vd_3581 : List (List (List (List Nat))) := [vd_3581_0]
noncomputable def vt_3581 : List (List am_I) := []
noncomputable def vc_3581 : vm_C := (fun _ => vp_3581, fun pc => (match Nat.beq pc 0 with
  | true => [(fun _ _ => some (.inl 1), fun _ _ => some [.ofNat 0, .ofNat 1, .ofNat 2, .ofNat 3, .ofNat 4])]
  | false => []), [], 1, vm_inst 8 1 vt_3581 vf_3581 vd_3581)
theorem vx_3581_0 : vm_chk bt_130 [] vk_3581 7 vc_3581 0 1 = true := by decide +kernel
theorem vy_3581 : vm_ents 130 7 vc_3581 ve_3581 = true := by decide +kernel
theorem vw_3581 : ∀ q ∈ vk_3581, vm_wt 2 q := vm_wts (vm_kc (vm_up v_303 rfl) vm_kn) (by decide +kernel)
theorem v_3581 : vm_at 3 q_3581 := vm_ok (inl := []) (es := ve_3581) bq_130 (by decide) vw_3581 vy_3581 (fun i => vm_hc vx_3581_0 rfl (fun h => absurd h (Nat.not_lt_zero _))) _ List.mem_cons_self
noncomputable def vp_3582 : List vm_R := [(some (.inl (.negSucc 0, .negSucc 0)), va_h0)]
noncomputable def ve_3582 : List vm_E := [([.inr (.inr (some 70)), .inl (.ofNat 4, .ofNat 2147483647), .inl (.ofNat 0, .ofNat 2), .inl (.ofNat 41, .ofNat 2147483647)], va_h0, 0, [0])]
noncomputable def q_3582 : vm_Q := (219, [.inr (.inr (some 70)), .inl (.ofNat 4, .ofNat 2147483647), .inl (.ofNat 0, .ofNat 2), .inl (.ofNat 41, .ofNat 2147483647)], va_h0, vp_3582)
noncomputable def vk_3582 : List vm_U := [(q_3577, true, [])]
noncomputable def vf_3582 : List ((Nat → am_I) → vm_A) := [fun v => (0, [(0, .inr (.inr (some 70))), (1, .inl (.ofNat 4, .ofNat 2147483647)), (2, .inl (.ofNat 0, .ofNat 2)), (3, .inl (.ofNat 41, .ofNat 2147483647))], [], (80, []))]
noncomputable def vd_3582_0_0 : List (List Nat) := [[0]]
noncomputable def vd_3582_0 : List (List (List Nat)) := [vd_3582_0_0]
noncomputable def vd_3582 : List (List (List (List Nat))) := [vd_3582_0]
noncomputable def vt_3582 : List (List am_I) := []
noncomputable def vc_3582 : vm_C := (fun _ => vp_3582, fun pc => (match Nat.beq pc 0 with
  | true => [(fun _ _ => some (.inl 1), fun _ _ => some [.ofNat 0, .ofNat 1, .ofNat 2, .ofNat 3, .ofNat 4])]
  | false => []), [40], 1, vm_inst 8 1 vt_3582 vf_3582 vd_3582)
theorem vx_3582_0 : vm_chk bt_219 [] vk_3582 8 vc_3582 0 1 = true := by decide +kernel
theorem vy_3582 : vm_ents 219 8 vc_3582 ve_3582 = true := by decide +kernel
theorem vw_3582 : ∀ q ∈ vk_3582, vm_wt 3 q := vm_wts (vm_kc (vm_up v_3577 rfl) vm_kn) (by decide +kernel)
theorem v_3582 : vm_at 4 q_3582 := vm_ok (inl := []) (es := ve_3582) bq_219 (by decide) vw_3582 vy_3582 (fun i => vm_hc vx_3582_0 rfl (fun h => absurd h (Nat.not_lt_zero _))) _ List.mem_cons_self
noncomputable def vp_3583 : List vm_R := [(some (.inl (.negSucc 0, .negSucc 0)), va_h0)]
noncomputable def ve_3583 : List vm_E := [([.inr (.inr (some 8)), .inl (.ofNat 4, .ofNat 2147483647), .inl (.ofNat 3, .ofNat 2147483647), .inl (.negSucc 2147483647, .negSucc 0)], va_h0, 0, [0])]
noncomputable def q_3583 : vm_Q := (130, [.inr (.inr (some 8)), .inl (.ofNat 4, .ofNat 2147483647), .inl (.ofNat 3, .ofNat 2147483647), .inl (.negSucc 2147483647, .negSucc 0)], va_h0, vp_3583)
noncomputable def vk_3583 : List vm_U := [(q_303, true, [])]
noncomputable def vf_3583 : List ((Nat → am_I) → vm_A) := [fun v => (0, [(0, .inr (.inr (some 8))), (1, .inl (.ofNat 4, .ofNat 2147483647)), (2, .inl (.ofNat 3, .ofNat 2147483647)), (3, .inl (.negSucc 2147483647, .negSucc 0))], [], (80, []))]
noncomputable def vd_3583_0_0 : List (List Nat) := [[0]]
noncomputable def vd_3583_0 : List (List (List Nat)) := [vd_3583_0_0]
noncomputable def vd_3583 : List (List (List (List Nat))) := [vd_3583_0]
noncomputable def vt_3583 : List (List am_I) := []
noncomputable def vc_3583 : vm_C := (fun _ => vp_3583, fun pc => (match Nat.beq pc 0 with
  | true => [(fun _ _ => some (.inl 1), fun _ _ => some [.ofNat 0, .ofNat 1, .ofNat 2, .ofNat 3, .ofNat 4])]
  | false => []), [], 1, vm_inst 8 1 vt_3583 vf_3583 vd_3583)
theorem vx_3583_0 : vm_chk bt_130 [] vk_3583 7 vc_3583 0 1 = true := by decide +kernel
theorem vy_3583 : vm_ents 130 7 vc_3583 ve_3583 = true := by decide +kernel
theorem vw_3583 : ∀ q ∈ vk_3583, vm_wt 2 q := vm_wts (vm_kc (vm_up v_303 rfl) vm_kn) (by decide +kernel)
theorem v_3583 : vm_at 3 q_3583 := vm_ok (inl := []) (es := ve_3583) bq_130 (by decide) vw_3583 vy_3583 (fun i => vm_hc vx_3583_0 rfl (fun h => absurd h (Nat.not_lt_zero _))) _ List.mem_cons_self
noncomputable def vp_3584 : List vm_R := [(some (.inl (.ofNat 0, .ofNat 0)), va_h0)]
noncomputable def ve_3584 : List vm_E := [([.inl (.ofNat 4, .ofNat 2147483647), .inl (.ofNat 3, .ofNat 2147483647)], va_h0, 0, [0])]
noncomputable def q_3584 : vm_Q := (220, [.inl (.ofNat 4, .ofNat 2147483647), .inl (.ofNat 3, .ofNat 2147483647)], va_h0, vp_3584)
noncomputable def vk_3584 : List vm_U := [(q_576, true, [])]
noncomputable def vf_3584 : List ((Nat → am_I) → vm_A) := [fun v => (0, [(0, .inl (.ofNat 4, .ofNat 2147483647)), (1, .inl (.ofNat 3, .ofNat 2147483647))], [], (80, []))]
noncomputable def vd_3584_0_0 : List (List Nat) := [[0]]
noncomputable def vd_3584_0 : List (List (List Nat)) := [vd_3584_0_0]
noncomputable def vd_3584 : List (List (List (List Nat))) := [vd_3584_0]
noncomputable def vt_3584 : List (List am_I) := []
noncomputable def vc_3584 : vm_C := (fun _ => vp_3584, fun pc => [], [], 1, vm_inst 8 1 vt_3584 vf_3584 vd_3584)
theorem vx_3584_0 : vm_chk bt_220 [] vk_3584 10 vc_3584 0 1 = true := by decide +kernel
theorem vy_3584 : vm_ents 220 10 vc_3584 ve_3584 = true := by decide +kernel
theorem vw_3584 : ∀ q ∈ vk_3584, vm_wt 2 q := vm_wts (vm_kc (vm_up v_576 rfl) vm_kn) (by decide +kernel)
theorem v_3584 : vm_at 3 q_3584 := vm_ok (inl := []) (es := ve_3584) bq_220 (by decide) vw_3584 vy_3584 (fun i => vm_hc vx_3584_0 rfl (fun h => absurd h (Nat.not_lt_zero _))) _ List.mem_cons_self
noncomputable def vp_3585 : List vm_R := [(some (.inl (.negSucc 0, .negSucc 0)), va_h0)]
noncomputable def ve_3585 : List vm_E := [([.inr (.inr (some 70)), .inl (.ofNat 4, .ofNat 2147483647), .inl (.ofNat 3, .ofNat 2147483647), .inl (.negSucc 2147483647, .negSucc 0)], va_h0, 0, [0])]
noncomputable def q_3585 : vm_Q := (219, [.inr (.inr (some 70)), .inl (.ofNat 4, .ofNat 2147483647), .inl (.ofNat 3, .ofNat 2147483647), .inl (.negSucc 2147483647, .negSucc 0)], va_h0, vp_3585)
noncomputable def vk_3585 : List vm_U := [(q_3584, true, [])]
noncomputable def vf_3585 : List ((Nat → am_I) → vm_A) := [fun v => (0, [(0, .inr (.inr (some 70))), (1, .inl (.ofNat 4, .ofNat 2147483647)), (2, .inl (.ofNat 3, .ofNat 2147483647)), (3, .inl (.negSucc 2147483647, .negSucc 0))], [], (80, []))]
noncomputable def vd_3585_0_0 : List (List Nat) := [[0]]
noncomputable def vd_3585_0 : List (List (List Nat)) := [vd_3585_0_0]
noncomputable def vd_3585 : List (List (List (List Nat))) := [vd_3585_0]
noncomputable def vt_3585 : List (List am_I) := []
noncomputable def vc_3585 : vm_C := (fun _ => vp_3585, fun pc => (match Nat.beq pc 0 with
  | true => [(fun _ _ => some (.inl 1), fun _ _ => some [.ofNat 0, .ofNat 1, .ofNat 2, .ofNat 3, .ofNat 4])]
  | false => []), [40], 1, vm_inst 8 1 vt_3585 vf_3585 vd_3585)
theorem vx_3585_0 : vm_chk bt_219 [] vk_3585 8 vc_3585 0 1 = true := by decide +kernel
theorem vy_3585 : vm_ents 219 8 vc_3585 ve_3585 = true := by decide +kernel
theorem vw_3585 : ∀ q ∈ vk_3585, vm_wt 3 q := vm_wts (vm_kc (vm_up v_3584 rfl) vm_kn) (by decide +kernel)
theorem v_3585 : vm_at 4 q_3585 := vm_ok (inl := []) (es := ve_3585) bq_219 (by decide) vw_3585 vy_3585 (fun i => vm_hc vx_3585_0 rfl (fun h => absurd h (Nat.not_lt_zero _))) _ List.mem_cons_self
noncomputable def vp_3586 : List vm_R := [(some (.inl (.negSucc 0, .negSucc 0)), va_h0)]
noncomputable def ve_3586 : List vm_E := [([.inr (.inr (some 8)), .inl (.ofNat 4, .ofNat 2147483647), .inl (.ofNat 3, .ofNat 2147483647), .inl (.ofNat 0, .ofNat 40)], va_h0, 0, [0])]
noncomputable def q_3586 : vm_Q := (130, [.inr (.inr (some 8)), .inl (.ofNat 4, .ofNat 2147483647), .inl (.ofNat 3, .ofNat 2147483647), .inl (.ofNat 0, .ofNat 40)], va_h0, vp_3586)
noncomputable def vk_3586 : List vm_U := [(q_303, true, [])]
noncomputable def vf_3586 : List ((Nat → am_I) → vm_A) := [fun v => (0, [(0, .inr (.inr (some 8))), (1, .inl (.ofNat 4, .ofNat 2147483647)), (2, .inl (.ofNat 3, .ofNat 2147483647)), (3, .inl (.ofNat 0, .ofNat 40))], [], (80, []))]
noncomputable def vd_3586_0_0 : List (List Nat) := [[0]]
noncomputable def vd_3586_0 : List (List (List Nat)) := [vd_3586_0_0]
noncomputable def vd_3586 : List (List (List (List Nat))) := [vd_3586_0]
noncomputable def vt_3586 : List (List am_I) := []
noncomputable def vc_3586 : vm_C := (fun _ => vp_3586, fun pc => (match Nat.beq pc 0 with
  | true => [(fun _ _ => some (.inl 1), fun _ _ => some [.ofNat 0, .ofNat 1, .ofNat 2, .ofNat 3, .ofNat 4])]
  | false => []), [], 1, vm_inst 8 1 vt_3586 vf_3586 vd_3586)
theorem vx_3586_0 : vm_chk bt_130 [] vk_3586 7 vc_3586 0 1 = true := by decide +kernel
theorem vy_3586 : vm_ents 130 7 vc_3586 ve_3586 = true := by decide +kernel
theorem vw_3586 : ∀ q ∈ vk_3586, vm_wt 2 q := vm_wts (vm_kc (vm_up v_303 rfl) vm_kn) (by decide +kernel)
theorem v_3586 : vm_at 3 q_3586 := vm_ok (inl := []) (es := ve_3586) bq_130 (by decide) vw_3586 vy_3586 (fun i => vm_hc vx_3586_0 rfl (fun h => absurd h (Nat.not_lt_zero _))) _ List.mem_cons_self
noncomputable def vp_3587 : List vm_R := [(some (.inl (.negSucc 0, .negSucc 0)), va_h0)]
noncomputable def ve_3587 : List vm_E := [([.inr (.inr (some 70)), .inl (.ofNat 4, .ofNat 2147483647), .inl (.ofNat 3, .ofNat 2147483647), .inl (.ofNat 0, .ofNat 40)], va_h0, 0, [0])]
noncomputable def q_3587 : vm_Q := (219, [.inr (.inr (some 70)), .inl (.ofNat 4, .ofNat 2147483647), .inl (.ofNat 3, .ofNat 2147483647), .inl (.ofNat 0, .ofNat 40)], va_h0, vp_3587)
noncomputable def vk_3587 : List vm_U := [(q_3584, true, [])]
noncomputable def vf_3587 : List ((Nat → am_I) → vm_A) := [fun v => (0, [(0, .inr (.inr (some 70))), (1, .inl (.ofNat 4, .ofNat 2147483647)), (2, .inl (.ofNat 3, .ofNat 2147483647)), (3, .inl (.ofNat 0, .ofNat 40))], [], (80, []))]
noncomputable def vd_3587_0_0 : List (List Nat) := [[0]]
noncomputable def vd_3587_0 : List (List (List Nat)) := [vd_3587_0_0]
noncomputable def vd_3587 : List (List (List (List Nat))) := [vd_3587_0]
noncomputable def vt_3587 : List (List am_I) := []
noncomputable def vc_3587 : vm_C := (fun _ => vp_3587, fun pc => (match Nat.beq pc 0 with
  | true => [(fun _ _ => some (.inl 1), fun _ _ => some [.ofNat 0, .ofNat 1, .ofNat 2, .ofNat 3, .ofNat 4])]
  | false => []), [40], 1, vm_inst 8 1 vt_3587 vf_3587 vd_3587)
theorem vx_3587_0 : vm_chk bt_219 [] vk_3587 8 vc_3587 0 1 = true := by decide +kernel
theorem vy_3587 : vm_ents 219 8 vc_3587 ve_3587 = true := by decide +kernel
theorem vw_3587 : ∀ q ∈ vk_3587, vm_wt 3 q := vm_wts (vm_kc (vm_up v_3584 rfl) vm_kn) (by decide +kernel)
theorem v_3587 : vm_at 4 q_3587 := vm_ok (inl := []) (es := ve_3587) bq_219 (by decide) vw_3587 vy_3587 (fun i => vm_hc vx_3587_0 rfl (fun h => absurd h (Nat.not_lt_zero _))) _ List.mem_cons_self
noncomputable def vp_3588 : List vm_R := [(some (.inl (.negSucc 0, .negSucc 0)), va_h0)]
noncomputable def ve_3588 : List vm_E := [([.inr (.inr (some 8)), .inl (.ofNat 4, .ofNat 2147483647), .inl (.ofNat 3, .ofNat 2147483647), .inl (.ofNat 41, .ofNat 2147483647)], va_h0, 0, [0])]
noncomputable def q_3588 : vm_Q := (130, [.inr (.inr (some 8)), .inl (.ofNat 4, .ofNat 2147483647), .inl (.ofNat 3, .ofNat 2147483647), .inl (.ofNat 41, .ofNat 2147483647)], va_h0, vp_3588)
noncomputable def vk_3588 : List vm_U := [(q_303, true, [])]
noncomputable def vf_3588 : List ((Nat → am_I) → vm_A) := [fun v => (0, [(0, .inr (.inr (some 8))), (1, .inl (.ofNat 4, .ofNat 2147483647)), (2, .inl (.ofNat 3, .ofNat 2147483647)), (3, .inl (.ofNat 41, .ofNat 2147483647))], [], (80, []))]
noncomputable def vd_3588_0_0 : List (List Nat) := [[0]]
noncomputable def vd_3588_0 : List (List (List Nat)) := [vd_3588_0_0]
noncomputable def vd_3588 : List (List (List (List Nat))) := [vd_3588_0]
noncomputable def vt_3588 : List (List am_I) := []
noncomputable def vc_3588 : vm_C := (fun _ => vp_3588, fun pc => (match Nat.beq pc 0 with
  | true => [(fun _ _ => some (.inl 1), fun _ _ => some [.ofNat 0, .ofNat 1, .ofNat 2, .ofNat 3, .ofNat 4])]
  | false => []), [], 1, vm_inst 8 1 vt_3588 vf_3588 vd_3588)
theorem vx_3588_0 : vm_chk bt_130 [] vk_3588 7 vc_3588 0 1 = true := by decide +kernel
theorem vy_3588 : vm_ents 130 7 vc_3588 ve_3588 = true := by decide +kernel
theorem vw_3588 : ∀ q ∈ vk_3588, vm_wt 2 q := vm_wts (vm_kc (vm_up v_303 rfl) vm_kn) (by decide +kernel)
theorem v_3588 : vm_at 3 q_3588 := vm_ok (inl := []) (es := ve_3588) bq_130 (by decide) vw_3588 vy_3588 (fun i => vm_hc vx_3588_0 rfl (fun h => absurd h (Nat.not_lt_zero _))) _ List.mem_cons_self
noncomputable def vp_3589 : List vm_R := [(some (.inl (.negSucc 0, .negSucc 0)), va_h0)]
noncomputable def ve_3589 : List vm_E := [([.inr (.inr (some 70)), .inl (.ofNat 4, .ofNat 2147483647), .inl (.ofNat 3, .ofNat 2147483647), .inl (.ofNat 41, .ofNat 2147483647)], va_h0, 0, [0])]
noncomputable def q_3589 : vm_Q := (219, [.inr (.inr (some 70)), .inl (.ofNat 4, .ofNat 2147483647), .inl (.ofNat 3, .ofNat 2147483647), .inl (.ofNat 41, .ofNat 2147483647)], va_h0, vp_3589)
noncomputable def vk_3589 : List vm_U := [(q_3584, true, [])]
noncomputable def vf_3589 : List ((Nat → am_I) → vm_A) := [fun v => (0, [(0, .inr (.inr (some 70))), (1, .inl (.ofNat 4, .ofNat 2147483647)), (2, .inl (.ofNat 3, .ofNat 2147483647)), (3, .inl (.ofNat 41, .ofNat 2147483647))], [], (80, []))]
noncomputable def vd_3589_0_0 : List (List Nat) := [[0]]
noncomputable def vd_3589_0 : List (List (List Nat)) := [vd_3589_0_0]
noncomputable def vd_3589 : List (List (List (List Nat))) := [vd_3589_0]
noncomputable def vt_3589 : List (List am_I) := []
noncomputable def vc_3589 : vm_C := (fun _ => vp_3589, fun pc => (match Nat.beq pc 0 with
  | true => [(fun _ _ => some (.inl 1), fun _ _ => some [.ofNat 0, .ofNat 1, .ofNat 2, .ofNat 3, .ofNat 4])]
  | false => []), [40], 1, vm_inst 8 1 vt_3589 vf_3589 vd_3589)
theorem vx_3589_0 : vm_chk bt_219 [] vk_3589 8 vc_3589 0 1 = true := by decide +kernel
theorem vy_3589 : vm_ents 219 8 vc_3589 ve_3589 = true := by decide +kernel
theorem vw_3589 : ∀ q ∈ vk_3589, vm_wt 3 q := vm_wts (vm_kc (vm_up v_3584 rfl) vm_kn) (by decide +kernel)
theorem v_3589 : vm_at 4 q_3589 := vm_ok (inl := []) (es := ve_3589) bq_219 (by decide) vw_3589 vy_3589 (fun i => vm_hc vx_3589_0 rfl (fun h => absurd h (Nat.not_lt_zero _))) _ List.mem_cons_self
