noncomputable def vp_645 : List vm_R := [(some (.inl am_top), va_h0)]
noncomputable def ve_645 : List vm_E := [([.inr (.inr (some 70)), .inl (.ofNat 0, .ofNat 4), .inl (.ofNat 0, .ofNat 0)], va_h0, 0, [0])]
noncomputable def q_645 : vm_Q := (184, [.inr (.inr (some 70)), .inl (.ofNat 0, .ofNat 4), .inl (.ofNat 0, .ofNat 0)], va_h0, vp_645)
noncomputable def vk_645 : List vm_U := [(q_483, true, []), (q_487, true, []), (q_489, true, []), (q_490, true, []), (q_491, true, []), (q_492, true, []), (q_486, true, []), (q_638, true, []), (q_639, true, []), (q_640, true, []), (q_641, true, []), (q_642, true, []), (q_643, true, []), (q_488, true, [])]
noncomputable def vf_645 : List ((Nat → am_I) → vm_A) := [fun v => (0, [(0, .inr (.inr (some 70))), (1, .inl (.ofNat 0, .ofNat 4)), (2, .inl (.ofNat 0, .ofNat 0))], [], (80, [])), fun v => (5, [(0, .inr (.inr (some 70))), (1, .inl (.ofNat 0, .ofNat 4)), (2, .inl (.ofNat 0, .ofNat 0)), (3, .inl (.ofNat 0, .ofNat 0)), (4, .inl (.ofNat 0, .ofNat 0))], [], (80, [])), fun v => (52, [(0, .inr (.inr (some 70))), (1, .inl (.ofNat 0, .ofNat 4)), (2, .inl (.ofNat 0, .ofNat 0)), (3, .inl (.ofNat 0, .ofNat 0)), (4, .inl (v 0)), (5, .inl (v 1))], [], (80, [])), fun v => (5, [(0, .inr (.inr (some 70))), (1, .inl (.ofNat 0, .ofNat 4)), (2, .inl (.ofNat 0, .ofNat 0)), (3, .inl am_top), (4, .inl (v 0)), (5, .inl am_top), (6, .inl am_top)], [], (80, [])), fun v => (52, [(0, .inr (.inr (some 70))), (1, .inl (.ofNat 0, .ofNat 4)), (2, .inl (.ofNat 0, .ofNat 0)), (3, .inl am_top), (4, .inl (v 0)), (5, .inl (v 1)), (6, .inl am_top)], [], (80, [])), fun v => (5, [(0, .inr (.inr (some 70))), (1, .inl (.ofNat 0, .ofNat 4)), (2, .inl (.ofNat 0, .ofNat 0)), (3, .inl (.ofNat 0, .ofNat 0)), (4, .inl (v 0)), (5, .inl am_top)], [], (80, []))]
noncomputable def vd_645_0_0 : List (List Nat) := [[65536, 66353227510137657688065, 16492909363202, 4398096908290, 3298568503298, 2199040098306, 1099511693314, 1237352541309219994271747], [16497204330500, 4402559647748, 3303031242756, 2203502837764, 1103974432772, 17596632072196, 4429250564, 17592202887170], [65538, 1275279047124766832394245, 16497204330498, 4402391875586, 3302863470594, 2203335065602, 1103806660610, 2446278360923849168977923], [16501499297796, 4406854615044, 3307326210052, 2207797805060, 1108269400068, 17600927039492, 8724217860, 17596497854466], [4295032834, 2484204866739396007100421, 16501499297794, 4406686842882, 3307158437890, 2207630032898, 1108101627906, 3655204180538478343684099], [16505794265092, 4411149582340, 3311621177348, 2212092772356, 1112564367364, 17605222006788, 13019185156, 17600792821762], [8590000130, 3693130686354025181806597, 16505794265090, 4410981810178, 3311453405186, 2211925000194, 1112396595202, 4864130000153107518390275], [16510089232388, 4415444549636, 3315916144644, 2216387739652, 1116859334660, 17609516974084, 17314152452, 17605087789058]]
noncomputable def vd_645_0_1 : List (List Nat) := [[12884967426, 4902056505968654356512773, 16510089232386, 4415276777474, 3315748372482, 2216219967490, 1116691562498, 6073055819767736693096451], [16514384199684, 4419739516932, 3320211111940, 2220682706948, 1121154301956, 17613811941380, 21609119748, 17609382756354], [17179934722, 6077796632994680047861765, 16514266759170, 4419571744770, 3320043339778, 2220514934786, 1120986529794, 100663299], [17613677723650, 21474902018, 100663301]]
noncomputable def vd_645_0 : List (List (List Nat)) := [vd_645_0_0, vd_645_0_1]
noncomputable def vd_645 : List (List (List (List Nat))) := [vd_645_0]
noncomputable def vt_645 : List (List am_I) := [[(.ofNat 5, .ofNat 2147483647), (.negSucc 2147483647, .ofNat 0)]]
noncomputable def vc_645 : vm_C := (fun _ => vp_645, fun pc => (match Nat.beq pc 52 with
  | true => [(fun _ _ => some (.inl 5), fun _ _ => some [.ofNat 1, .ofNat 2, .ofNat 3, .ofNat 4, .ofNat 5])]
  | false => []), [5, 52], 91, vm_inst 8 15 vt_645 vf_645 vd_645)
theorem vx_645_0 : vm_chk bt_184 [] vk_645 54 vc_645 0 6 = true := by decide +kernel
theorem vx_645_1 : vm_chk bt_184 [] vk_645 54 vc_645 6 5 = true := by decide +kernel
theorem vx_645_2 : vm_chk bt_184 [] vk_645 54 vc_645 11 8 = true := by decide +kernel
theorem vx_645_3 : vm_chk bt_184 [] vk_645 54 vc_645 19 4 = true := by decide +kernel
theorem vx_645_4 : vm_chk bt_184 [] vk_645 54 vc_645 23 5 = true := by decide +kernel
theorem vx_645_5 : vm_chk bt_184 [] vk_645 54 vc_645 28 8 = true := by decide +kernel
theorem vx_645_6 : vm_chk bt_184 [] vk_645 54 vc_645 36 5 = true := by decide +kernel
theorem vx_645_7 : vm_chk bt_184 [] vk_645 54 vc_645 41 4 = true := by decide +kernel
theorem vx_645_8 : vm_chk bt_184 [] vk_645 54 vc_645 45 8 = true := by decide +kernel
theorem vx_645_9 : vm_chk bt_184 [] vk_645 54 vc_645 53 5 = true := by decide +kernel
theorem vx_645_10 : vm_chk bt_184 [] vk_645 54 vc_645 58 7 = true := by decide +kernel
theorem vx_645_11 : vm_chk bt_184 [] vk_645 54 vc_645 65 5 = true := by decide +kernel
theorem vx_645_12 : vm_chk bt_184 [] vk_645 54 vc_645 70 6 = true := by decide +kernel
theorem vx_645_13 : vm_chk bt_184 [] vk_645 54 vc_645 76 9 = true := by decide +kernel
theorem vx_645_14 : vm_chk bt_184 [] vk_645 54 vc_645 85 6 = true := by decide +kernel
theorem vy_645 : vm_ents 184 54 vc_645 ve_645 = true := by decide +kernel
theorem vw_645 : ∀ q ∈ vk_645, vm_wt 3 q := vm_wts (vm_kc (vm_up v_483 rfl) (vm_kc (vm_up v_487 rfl) (vm_kc (vm_up v_489 rfl) (vm_kc (vm_up v_490 rfl) (vm_kc (vm_up v_491 rfl) (vm_kc (vm_up v_492 rfl) (vm_kc (vm_up v_486 rfl) (vm_kc (vm_up v_638 rfl) (vm_kc (vm_up v_639 rfl) (vm_kc (vm_up v_640 rfl) (vm_kc (vm_up v_641 rfl) (vm_kc (vm_up v_642 rfl) (vm_kc (vm_up v_643 rfl) (vm_kc (vm_up v_488 rfl) vm_kn)))))))))))))) (by decide +kernel)
theorem v_645 : vm_at 4 q_645 := vm_ok (inl := []) (es := ve_645) bq_184 (by decide) vw_645 vy_645 (fun i => vm_hc vx_645_14 rfl (vm_hc vx_645_13 rfl (vm_hc vx_645_12 rfl (vm_hc vx_645_11 rfl (vm_hc vx_645_10 rfl (vm_hc vx_645_9 rfl (vm_hc vx_645_8 rfl (vm_hc vx_645_7 rfl (vm_hc vx_645_6 rfl (vm_hc vx_645_5 rfl (vm_hc vx_645_4 rfl (vm_hc vx_645_3 rfl (vm_hc vx_645_2 rfl (vm_hc vx_645_1 rfl (vm_hc vx_645_0 rfl (fun h => absurd h (Nat.not_lt_zero _))))))))))))))))) _ List.mem_cons_self
noncomputable def vp_646 : List vm_R := [(some (.inl am_top), va_h0)]
noncomputable def ve_646 : List vm_E := [([.inr (.inr (some 70)), .inl am_top, .inl am_top], va_h0, 0, [0, 1, 2])]
noncomputable def q_646 : vm_Q := (183, [.inr (.inr (some 70)), .inl am_top, .inl am_top], va_h0, vp_646)
noncomputable def vk_646 : List vm_U := [(q_637, true, []), (q_636, true, []), (q_586, true, []), (q_568, true, []), (q_482, false, []), (q_644, true, []), (q_645, true, [])]
noncomputable def vf_646 : List ((Nat → am_I) → vm_A) := [fun v => (0, [(0, .inr (.inr (some 70))), (1, .inl (v 0)), (2, .inl am_top)], [], (80, []))]
noncomputable def vd_646_0_0 : List (List Nat) := [[16777216, 33554432, 50331648]]
noncomputable def vd_646_0 : List (List (List Nat)) := [vd_646_0_0]
noncomputable def vd_646 : List (List (List (List Nat))) := [vd_646_0]
noncomputable def vt_646 : List (List am_I) := [[(.ofNat 5, .ofNat 2147483647), (.ofNat 0, .ofNat 4), (.negSucc 2147483647, .negSucc 0)]]
noncomputable def vc_646 : vm_C := (fun _ => vp_646, fun pc => (match Nat.beq pc 0 with
  | true => [(fun _ _ => some (.inl 1), fun _ _ => some [.ofNat 0, .ofNat 5])]
  | false => []), [], 3, vm_inst 8 1 vt_646 vf_646 vd_646)
theorem vx_646_0 : vm_chk bt_183 [] vk_646 25 vc_646 0 3 = true := by decide +kernel
theorem vy_646 : vm_ents 183 25 vc_646 ve_646 = true := by decide +kernel
theorem vw_646 : ∀ q ∈ vk_646, vm_wt 4 q := vm_wts (vm_kc (vm_up v_637 rfl) (vm_kc (vm_up v_636 rfl) (vm_kc (vm_up v_586 rfl) (vm_kc (vm_up v_568 rfl) (vm_kc (vm_up v_482 rfl) (vm_kc (vm_up v_644 rfl) (vm_kc (vm_up v_645 rfl) vm_kn))))))) (by decide +kernel)
theorem v_646 : vm_at 5 q_646 := vm_ok (inl := []) (es := ve_646) bq_183 (by decide) vw_646 vy_646 (fun i => vm_hc vx_646_0 rfl (fun h => absurd h (Nat.not_lt_zero _))) _ List.mem_cons_self
noncomputable def vp_647 : List vm_R := [(some (.inl (.ofNat 0, .ofNat 4)), va_h0)]
noncomputable def ve_647 : List vm_E := [([.inr (.inr (some 70)), .inl (.ofNat 0, .ofNat 4)], va_h0, 0, [0])]
noncomputable def q_647 : vm_Q := (189, [.inr (.inr (some 70)), .inl (.ofNat 0, .ofNat 4)], va_h0, vp_647)
noncomputable def vk_647 : List vm_U := [(q_644, true, []), (q_645, true, []), (q_499, true, []), (q_484, true, [])]
noncomputable def vf_647 : List ((Nat → am_I) → vm_A) := [fun v => (0, [(0, .inr (.inr (some 70))), (1, .inl (.ofNat 0, .ofNat 4))], [], (80, []))]
noncomputable def vd_647_0_0 : List (List Nat) := [[0]]
noncomputable def vd_647_0 : List (List (List Nat)) := [vd_647_0_0]
noncomputable def vd_647 : List (List (List (List Nat))) := [vd_647_0]
noncomputable def vt_647 : List (List am_I) := []
noncomputable def vc_647 : vm_C := (fun _ => vp_647, fun pc => [], [], 1, vm_inst 8 1 vt_647 vf_647 vd_647)
theorem vx_647_0 : vm_chk bt_189 [] vk_647 38 vc_647 0 1 = true := by decide +kernel
theorem vy_647 : vm_ents 189 38 vc_647 ve_647 = true := by decide +kernel
theorem vw_647 : ∀ q ∈ vk_647, vm_wt 4 q := vm_wts (vm_kc (vm_up v_644 rfl) (vm_kc (vm_up v_645 rfl) (vm_kc (vm_up v_499 rfl) (vm_kc (vm_up v_484 rfl) vm_kn)))) (by decide +kernel)
theorem v_647 : vm_at 5 q_647 := vm_ok (inl := []) (es := ve_647) bq_189 (by decide) vw_647 vy_647 (fun i => vm_hc vx_647_0 rfl (fun h => absurd h (Nat.not_lt_zero _))) _ List.mem_cons_self
noncomputable def vp_648 : List vm_R := [(some (.inl (.negSucc 0, .ofNat 4)), va_h0)]
noncomputable def ve_648 : List vm_E := [([.inr (.inr (some 70)), .inl am_top], va_h0, 0, [0, 1, 2])]
noncomputable def q_648 : vm_Q := (188, [.inr (.inr (some 70)), .inl am_top], va_h0, vp_648)
noncomputable def vk_648 : List vm_U := [(q_636, true, []), (q_586, true, []), (q_568, true, []), (q_482, false, []), (q_647, true, [])]
noncomputable def vf_648 : List ((Nat → am_I) → vm_A) := [fun v => (0, [(0, .inr (.inr (some 70))), (1, .inl (v 0))], [], (80, []))]
noncomputable def vd_648_0_0 : List (List Nat) := [[16777216, 33554432, 50331648]]
noncomputable def vd_648_0 : List (List (List Nat)) := [vd_648_0_0]
noncomputable def vd_648 : List (List (List (List Nat))) := [vd_648_0]
noncomputable def vt_648 : List (List am_I) := [[(.ofNat 5, .ofNat 2147483647), (.ofNat 0, .ofNat 4), (.negSucc 2147483647, .negSucc 0)]]
noncomputable def vc_648 : vm_C := (fun _ => vp_648, fun pc => (match Nat.beq pc 0 with
  | true => [(fun _ _ => some (.inl 1), fun _ _ => some [.ofNat 0, .ofNat 5])]
  | false => []), [], 3, vm_inst 8 1 vt_648 vf_648 vd_648)
theorem vx_648_0 : vm_chk bt_188 [] vk_648 12 vc_648 0 3 = true := by decide +kernel
theorem vy_648 : vm_ents 188 12 vc_648 ve_648 = true := by decide +kernel
theorem vw_648 : ∀ q ∈ vk_648, vm_wt 5 q := vm_wts (vm_kc (vm_up v_636 rfl) (vm_kc (vm_up v_586 rfl) (vm_kc (vm_up v_568 rfl) (vm_kc (vm_up v_482 rfl) (vm_kc (vm_up v_647 rfl) vm_kn))))) (by decide +kernel)
theorem v_648 : vm_at 6 q_648 := vm_ok (inl := []) (es := ve_648) bq_188 (by decide) vw_648 vy_648 (fun i => vm_hc vx_648_0 rfl (fun h => absurd h (Nat.not_lt_zero _))) _ List.mem_cons_self
noncomputable def vp_649 : List vm_R := [(some (.inl am_top), va_h0)]
noncomputable def ve_649 : List vm_E := [([.inr (.inr (some 70))], va_h0, 0, [0])]
noncomputable def q_649 : vm_Q := (190, [.inr (.inr (some 70))], va_h0, vp_649)
noncomputable def vk_649 : List vm_U := [(q_521, true, []), (q_522, true, []), (q_482, false, []), (q_558, false, [])]
noncomputable def vf_649 : List ((Nat → am_I) → vm_A) := [fun v => (0, [(0, .inr (.inr (some 70)))], [], (80, [])), fun v => (13, [(0, .inr (.inr (some 70))), (1, .inl (v 0)), (2, .inl (v 1))], [], (80, []))]
noncomputable def vd_649_0_0 : List (List Nat) := [[65536, 65537, 1129576464385, 2233383059457, 3332894687233, 4432406315009, 5531917942785, 25904021505]]
noncomputable def vd_649_0 : List (List (List Nat)) := [vd_649_0_0]
noncomputable def vd_649 : List (List (List (List Nat))) := [vd_649_0]
noncomputable def vt_649 : List (List am_I) := [[(.ofNat 0, .ofNat 1), am_top]]
noncomputable def vc_649 : vm_C := (fun _ => vp_649, fun pc => [], [13], 8, vm_inst 8 7 vt_649 vf_649 vd_649)
theorem vx_649_0 : vm_chk bt_190 [] vk_649 29 vc_649 0 6 = true := by decide +kernel
theorem vx_649_1 : vm_chk bt_190 [] vk_649 29 vc_649 6 2 = true := by decide +kernel
theorem vy_649 : vm_ents 190 29 vc_649 ve_649 = true := by decide +kernel
theorem vw_649 : ∀ q ∈ vk_649, vm_wt 6 q := vm_wts (vm_kc (vm_up v_521 rfl) (vm_kc (vm_up v_522 rfl) (vm_kc (vm_up v_482 rfl) (vm_kc (vm_up v_558 rfl) vm_kn)))) (by decide +kernel)
theorem v_649 : vm_at 7 q_649 := vm_ok (inl := []) (es := ve_649) bq_190 (by decide) vw_649 vy_649 (fun i => vm_hc vx_649_1 rfl (vm_hc vx_649_0 rfl (fun h => absurd h (Nat.not_lt_zero _)))) _ List.mem_cons_self
noncomputable def vp_650 : List vm_R := [(some (.inl am_top), va_h0)]
noncomputable def ve_650 : List vm_E := [([.inr (.inr (some 70))], va_h0, 0, [0])]
noncomputable def q_650 : vm_Q := (195, [.inr (.inr (some 70))], va_h0, vp_650)
noncomputable def vk_650 : List vm_U := [(q_482, false, []), (q_498, true, []), (q_497, true, []), (q_507, true, []), (q_506, true, []), (q_518, true, []), (q_517, true, []), (q_534, true, []), (q_533, true, []), (q_544, true, []), (q_543, true, []), (q_553, true, []), (q_552, true, []), (q_484, true, [])]
noncomputable def vf_650 : List ((Nat → am_I) → vm_A) := [fun v => (0, [(0, .inr (.inr (some 70)))], [], (80, [])), fun v => (8, [(0, .inr (.inr (some 70))), (1, .inl (v 0)), (2, .inl (v 1))], [], (80, []))]
noncomputable def vd_650_0_0 : List (List Nat) := [[65536, 65537, 1129576464385, 2229088092161, 3328599719937, 4428111347713, 5527622975489, 25887244289]]
noncomputable def vd_650_0 : List (List (List Nat)) := [vd_650_0_0]
noncomputable def vd_650 : List (List (List (List Nat))) := [vd_650_0]
noncomputable def vt_650 : List (List am_I) := [[am_top]]
noncomputable def vc_650 : vm_C := (fun _ => vp_650, fun pc => [], [8], 8, vm_inst 8 7 vt_650 vf_650 vd_650)
theorem vx_650_0 : vm_chk bt_195 [] vk_650 23 vc_650 0 8 = true := by decide +kernel
theorem vy_650 : vm_ents 195 23 vc_650 ve_650 = true := by decide +kernel
theorem vw_650 : ∀ q ∈ vk_650, vm_wt 4 q := vm_wts (vm_kc (vm_up v_482 rfl) (vm_kc (vm_up v_498 rfl) (vm_kc (vm_up v_497 rfl) (vm_kc (vm_up v_507 rfl) (vm_kc (vm_up v_506 rfl) (vm_kc (vm_up v_518 rfl) (vm_kc (vm_up v_517 rfl) (vm_kc (vm_up v_534 rfl) (vm_kc (vm_up v_533 rfl) (vm_kc (vm_up v_544 rfl) (vm_kc (vm_up v_543 rfl) (vm_kc (vm_up v_553 rfl) (vm_kc (vm_up v_552 rfl) (vm_kc (vm_up v_484 rfl) vm_kn)))))))))))))) (by decide +kernel)
theorem v_650 : vm_at 5 q_650 := vm_ok (inl := []) (es := ve_650) bq_195 (by decide) vw_650 vy_650 (fun i => vm_hc vx_650_0 rfl (fun h => absurd h (Nat.not_lt_zero _))) _ List.mem_cons_self
noncomputable def vp_651 : List vm_R := [(some (.inl (.ofNat 0, .ofNat 0)), va_h0)]
noncomputable def ve_651 : List vm_E := [([.inr (.inl (.negSucc 2147483647, .negSucc 0)), .inr (.inl (.ofNat 0, .ofNat 0)), .inr (.inl (.ofNat 60, .ofNat 60))], va_h0, 0, [0])]
noncomputable def q_651 : vm_Q := (149, [.inr (.inl (.negSucc 2147483647, .negSucc 0)), .inr (.inl (.ofNat 0, .ofNat 0)), .inr (.inl (.ofNat 60, .ofNat 60))], va_h0, vp_651)
noncomputable def vk_651 : List vm_U := []
noncomputable def vf_651 : List ((Nat → am_I) → vm_A) := [fun v => (0, [(0, .inr (.inl (.negSucc 2147483647, .negSucc 0))), (2, .inr (.inl (.ofNat 0, .ofNat 0))), (4, .inr (.inl (.ofNat 60, .ofNat 60)))], [], (80, []))]
noncomputable def vd_651_0_0 : List (List Nat) := [[0]]
noncomputable def vd_651_0 : List (List (List Nat)) := [vd_651_0_0]
noncomputable def vd_651 : List (List (List (List Nat))) := [vd_651_0]
noncomputable def vt_651 : List (List am_I) := []
noncomputable def vc_651 : vm_C := (fun _ => vp_651, fun pc => [], [], 1, vm_inst 8 1 vt_651 vf_651 vd_651)
theorem vx_651_0 : vm_chk bt_149 [] vk_651 8 vc_651 0 1 = true := by decide +kernel
theorem vy_651 : vm_ents 149 8 vc_651 ve_651 = true := by decide +kernel
theorem vw_651 : ∀ q ∈ vk_651, vm_wt 1 q := vm_wts vm_kn (by decide +kernel)
theorem v_651 : vm_at 2 q_651 := vm_ok (inl := []) (es := ve_651) bq_149 (by decide) vw_651 vy_651 (fun i => vm_hc vx_651_0 rfl (fun h => absurd h (Nat.not_lt_zero _))) _ List.mem_cons_self
noncomputable def vp_652 : List vm_R := [(some (.inl (.ofNat 1, .ofNat 1)), va_h0)]
noncomputable def ve_652 : List vm_E := [([.inr (.inl (.ofNat 0, .ofNat 60)), .inr (.inl (.ofNat 0, .ofNat 0)), .inr (.inl (.ofNat 60, .ofNat 60))], va_h0, 0, [0])]
noncomputable def q_652 : vm_Q := (149, [.inr (.inl (.ofNat 0, .ofNat 60)), .inr (.inl (.ofNat 0, .ofNat 0)), .inr (.inl (.ofNat 60, .ofNat 60))], va_h0, vp_652)
noncomputable def vk_652 : List vm_U := []
noncomputable def vf_652 : List ((Nat → am_I) → vm_A) := [fun v => (0, [(0, .inr (.inl (.ofNat 0, .ofNat 60))), (2, .inr (.inl (.ofNat 0, .ofNat 0))), (4, .inr (.inl (.ofNat 60, .ofNat 60)))], [], (80, []))]
noncomputable def vd_652_0_0 : List (List Nat) := [[0]]
noncomputable def vd_652_0 : List (List (List Nat)) := [vd_652_0_0]
noncomputable def vd_652 : List (List (List (List Nat))) := [vd_652_0]
noncomputable def vt_652 : List (List am_I) := []
noncomputable def vc_652 : vm_C := (fun _ => vp_652, fun pc => [], [], 1, vm_inst 8 1 vt_652 vf_652 vd_652)
theorem vx_652_0 : vm_chk bt_149 [] vk_652 13 vc_652 0 1 = true := by decide +kernel
theorem vy_652 : vm_ents 149 13 vc_652 ve_652 = true := by decide +kernel
theorem vw_652 : ∀ q ∈ vk_652, vm_wt 1 q := vm_wts vm_kn (by decide +kernel)
theorem v_652 : vm_at 2 q_652 := vm_ok (inl := []) (es := ve_652) bq_149 (by decide) vw_652 vy_652 (fun i => vm_hc vx_652_0 rfl (fun h => absurd h (Nat.not_lt_zero _))) _ List.mem_cons_self
noncomputable def vp_653 : List vm_R := [(some (.inl (.ofNat 0, .ofNat 0)), va_h0)]
noncomputable def ve_653 : List vm_E := [([.inr (.inl (.ofNat 61, .ofNat 2147483647)), .inr (.inl (.ofNat 0, .ofNat 0)), .inr (.inl (.ofNat 60, .ofNat 60))], va_h0, 0, [0])]
noncomputable def q_653 : vm_Q := (149, [.inr (.inl (.ofNat 61, .ofNat 2147483647)), .inr (.inl (.ofNat 0, .ofNat 0)), .inr (.inl (.ofNat 60, .ofNat 60))], va_h0, vp_653)
noncomputable def vk_653 : List vm_U := []
noncomputable def vf_653 : List ((Nat → am_I) → vm_A) := [fun v => (0, [(0, .inr (.inl (.ofNat 61, .ofNat 2147483647))), (2, .inr (.inl (.ofNat 0, .ofNat 0))), (4, .inr (.inl (.ofNat 60, .ofNat 60)))], [], (80, []))]
noncomputable def vd_653_0_0 : List (List Nat) := [[0]]
noncomputable def vd_653_0 : List (List (List Nat)) := [vd_653_0_0]
noncomputable def vd_653 : List (List (List (List Nat))) := [vd_653_0]
noncomputable def vt_653 : List (List am_I) := []
noncomputable def vc_653 : vm_C := (fun _ => vp_653, fun pc => [], [], 1, vm_inst 8 1 vt_653 vf_653 vd_653)
theorem vx_653_0 : vm_chk bt_149 [] vk_653 12 vc_653 0 1 = true := by decide +kernel
theorem vy_653 : vm_ents 149 12 vc_653 ve_653 = true := by decide +kernel
theorem vw_653 : ∀ q ∈ vk_653, vm_wt 1 q := vm_wts vm_kn (by decide +kernel)
theorem v_653 : vm_at 2 q_653 := vm_ok (inl := []) (es := ve_653) bq_149 (by decide) vw_653 vy_653 (fun i => vm_hc vx_653_0 rfl (fun h => absurd h (Nat.not_lt_zero _))) _ List.mem_cons_self
noncomputable def vp_654 : List vm_R := [(some (.inl (.negSucc 2, .ofNat 6)), va_h0)]
noncomputable def ve_654 : List vm_E := [([.inr (.inr (some 70)), .inl am_top], va_h0, 0, [0, 1, 69])]
noncomputable def q_654 : vm_Q := (196, [.inr (.inr (some 70)), .inl am_top], va_h0, vp_654)
noncomputable def vk_654 : List vm_U := [(q_652, true, []), (q_653, true, []), (q_651, true, []), (q_482, false, []), (q_558, false, []), (q_559, true, [])]
noncomputable def vf_654 : List ((Nat → am_I) → vm_A) := [fun v => (0, [(0, .inr (.inr (some 70))), (1, .inl (v 0))], [], (80, [])), fun v => (38, [(0, .inr (.inr (some 70))), (1, .inl (.ofNat 0, .ofNat 60)), (2, .inl (v 0))], [], (80, [])), fun v => (56, [(0, .inr (.inr (some 70))), (1, .inl (.ofNat 0, .ofNat 60)), (2, .inl (v 0))], [], (80, []))]
noncomputable def vd_654_0_0 : List (List Nat) := [[1023410176, 266288037888, 257698168833, 1352914829313, 2448131489793, 3543348150273, 4638564810753, 5733781471233], [6828998131713, 7924214792193, 9019431452673, 10114648113153, 11209864773633, 12305081434113, 13400298094593, 14495514755073], [15590731415553, 16685948076033, 17781164736513, 18876381396993, 19971598057473, 21066814717953, 22162031378433, 23257248038913], [24352464699393, 25447681359873, 26542898020353, 27638114680833, 28733331341313, 29828548001793, 30923764662273, 32018981322753], [33114197983233, 34209414643713, 35304631304193, 36399847964673, 37495064625153, 38590281285633, 39685497946113, 40780714606593], [41875931267073, 42971147927553, 44066364588033, 45161581248513, 46256797908993, 47352014569473, 48447231229953, 49542447890433], [50637664550913, 51732881211393, 52828097871873, 53923314532353, 55018531192833, 56113747853313, 57208964513793, 58304181174273], [59399397834753, 60494614495233, 61589831155713, 62685047816193, 63780264476673, 64875481137153, 257698103297, 65538]]
noncomputable def vd_654_0_1 : List (List Nat) := [[4295032834, 8590000130, 12884967426, 17179934722, 83886082, 1056964608]]
noncomputable def vd_654_0 : List (List (List Nat)) := [vd_654_0_0, vd_654_0_1]
noncomputable def vd_654 : List (List (List (List Nat))) := [vd_654_0]
noncomputable def vt_654 : List (List am_I) := [[(.ofNat 61, .ofNat 2147483647), (.ofNat 0, .ofNat 60), (.negSucc 2147483647, .negSucc 0)]]
noncomputable def vc_654 : vm_C := (fun _ => vp_654, fun pc => (match Nat.beq pc 0 with
  | true => [(fun _ _ => some (.inl 1), fun _ _ => some [.ofNat 0, .ofNat 61])]
  | false => []), [38, 56], 70, vm_inst 8 61 vt_654 vf_654 vd_654)
theorem vx_654_0 : vm_chk bt_196 [] vk_654 28 vc_654 0 14 = true := by decide +kernel
theorem vx_654_1 : vm_chk bt_196 [] vk_654 28 vc_654 14 14 = true := by decide +kernel
theorem vx_654_2 : vm_chk bt_196 [] vk_654 28 vc_654 28 14 = true := by decide +kernel
theorem vx_654_3 : vm_chk bt_196 [] vk_654 28 vc_654 42 14 = true := by decide +kernel
theorem vx_654_4 : vm_chk bt_196 [] vk_654 28 vc_654 56 11 = true := by decide +kernel
theorem vx_654_5 : vm_chk bt_196 [] vk_654 28 vc_654 67 3 = true := by decide +kernel
theorem vy_654 : vm_ents 196 28 vc_654 ve_654 = true := by decide +kernel
theorem vw_654 : ∀ q ∈ vk_654, vm_wt 6 q := vm_wts (vm_kc (vm_up v_652 rfl) (vm_kc (vm_up v_653 rfl) (vm_kc (vm_up v_651 rfl) (vm_kc (vm_up v_482 rfl) (vm_kc (vm_up v_558 rfl) (vm_kc (vm_up v_559 rfl) vm_kn)))))) (by decide +kernel)
theorem v_654 : vm_at 7 q_654 := vm_ok (inl := []) (es := ve_654) bq_196 (by decide) vw_654 vy_654 (fun i => vm_hc vx_654_5 rfl (vm_hc vx_654_4 rfl (vm_hc vx_654_3 rfl (vm_hc vx_654_2 rfl (vm_hc vx_654_1 rfl (vm_hc vx_654_0 rfl (fun h => absurd h (Nat.not_lt_zero _)))))))) _ List.mem_cons_self
noncomputable def vp_655 : List vm_R := [(some (.inl am_top), va_h0)]
noncomputable def ve_655 : List vm_E := [([.inr (.inr (some 70)), .inl am_top, .inl am_top, .inl am_top], va_h0, 0, [0, 1, 2, 3, 4, 66, 67, 68, 69])]
noncomputable def q_655 : vm_Q := (198, [.inr (.inr (some 70)), .inl am_top, .inl am_top, .inl am_top], va_h0, vp_655)
noncomputable def vk_655 : List vm_U := [(q_652, true, []), (q_653, true, []), (q_651, true, []), (q_637, true, []), (q_636, true, []), (q_586, true, []), (q_568, true, []), (q_482, false, []), (q_558, false, [])]
noncomputable def vf_655 : List ((Nat → am_I) → vm_A) := [fun v => (0, [(0, .inr (.inr (some 70))), (1, .inl (v 0)), (2, .inl (v 1)), (3, .inl am_top)], [], (80, [])), fun v => (39, [(0, .inr (.inr (some 70))), (1, .inl (.ofNat 0, .ofNat 4)), (2, .inl (.ofNat 0, .ofNat 60)), (3, .inl am_top), (4, .inl (v 0))], [], (80, []))]
noncomputable def vd_655_0_0 : List (List Nat) := [[267311382528, 271606349824, 275901317120, 267378491392, 69548405489664, 65537, 4295032833, 8590000129], [12884967425, 17179934721, 21474902017, 25769869313, 30064836609, 34359803905, 38654771201, 42949738497], [47244705793, 51539673089, 55834640385, 60129607681, 64424574977, 68719542273, 73014509569, 77309476865], [81604444161, 85899411457, 90194378753, 94489346049, 98784313345, 103079280641, 107374247937, 111669215233], [115964182529, 120259149825, 124554117121, 128849084417, 133144051713, 137439019009, 141733986305, 146028953601], [150323920897, 154618888193, 158913855489, 163208822785, 167503790081, 171798757377, 176093724673, 180388691969], [184683659265, 188978626561, 193273593857, 197568561153, 201863528449, 206158495745, 210453463041, 214748430337], [219043397633, 223338364929, 227633332225, 231928299521, 236223266817, 240518234113, 244813201409, 249108168705]]
noncomputable def vd_655_0_1 : List (List Nat) := [[253403136001, 1006632961, 275968425984, 267361714176, 271656681472, 275951648768]]
noncomputable def vd_655_0 : List (List (List Nat)) := [vd_655_0_0, vd_655_0_1]
noncomputable def vd_655 : List (List (List (List Nat))) := [vd_655_0]
noncomputable def vt_655 : List (List am_I) := [[(.ofNat 5, .ofNat 2147483647), (.ofNat 61, .ofNat 2147483647), (.ofNat 0, .ofNat 60), (.negSucc 2147483647, .negSucc 0), (.ofNat 0, .ofNat 4)]]
noncomputable def vc_655 : vm_C := (fun _ => vp_655, fun pc => (match Nat.beq pc 0 with
  | true => [(fun _ _ => some (.inl 1), fun _ _ => some [.ofNat 0, .ofNat 5]), (fun _ _ => some (.inl 2), fun _ _ => some [.ofNat 0, .ofNat 61])]
  | false => []), [39], 70, vm_inst 8 61 vt_655 vf_655 vd_655)
theorem vx_655_0 : vm_chk bt_198 [] vk_655 23 vc_655 0 11 = true := by decide +kernel
theorem vx_655_1 : vm_chk bt_198 [] vk_655 23 vc_655 11 10 = true := by decide +kernel
theorem vx_655_2 : vm_chk bt_198 [] vk_655 23 vc_655 21 10 = true := by decide +kernel
theorem vx_655_3 : vm_chk bt_198 [] vk_655 23 vc_655 31 10 = true := by decide +kernel
theorem vx_655_4 : vm_chk bt_198 [] vk_655 23 vc_655 41 10 = true := by decide +kernel
theorem vx_655_5 : vm_chk bt_198 [] vk_655 23 vc_655 51 10 = true := by decide +kernel
theorem vx_655_6 : vm_chk bt_198 [] vk_655 23 vc_655 61 9 = true := by decide +kernel
theorem vy_655 : vm_ents 198 23 vc_655 ve_655 = true := by decide +kernel
theorem vw_655 : ∀ q ∈ vk_655, vm_wt 6 q := vm_wts (vm_kc (vm_up v_652 rfl) (vm_kc (vm_up v_653 rfl) (vm_kc (vm_up v_651 rfl) (vm_kc (vm_up v_637 rfl) (vm_kc (vm_up v_636 rfl) (vm_kc (vm_up v_586 rfl) (vm_kc (vm_up v_568 rfl) (vm_kc (vm_up v_482 rfl) (vm_kc (vm_up v_558 rfl) vm_kn))))))))) (by decide +kernel)
theorem v_655 : vm_at 7 q_655 := vm_ok (inl := []) (es := ve_655) bq_198 (by decide) vw_655 vy_655 (fun i => vm_hc vx_655_6 rfl (vm_hc vx_655_5 rfl (vm_hc vx_655_4 rfl (vm_hc vx_655_3 rfl (vm_hc vx_655_2 rfl (vm_hc vx_655_1 rfl (vm_hc vx_655_0 rfl (fun h => absurd h (Nat.not_lt_zero _))))))))) _ List.mem_cons_self
noncomputable def vp_656 : List vm_R := [(some (.inl (.negSucc 3, .ofNat 60)), va_h0)]
noncomputable def ve_656 : List vm_E := [([.inr (.inr (some 70))], va_h0, 0, [0])]
noncomputable def q_656 : vm_Q := (199, [.inr (.inr (some 70))], va_h0, vp_656)
noncomputable def vk_656 : List vm_U := [(q_482, false, []), (q_558, false, [])]
noncomputable def vf_656 : List ((Nat → am_I) → vm_A) := [fun v => (0, [(0, .inr (.inr (some 70)))], [], (80, [])), fun v => (6, [(0, .inr (.inr (some 70))), (1, .inl (v 0))], [], (80, []))]
noncomputable def vd_656_0_0 : List (List Nat) := [[65536, 65537, 4295032833, 8590000129, 12884967425, 17179934721, 21474902017, 25769869313], [30064836609, 34359803905, 38654771201, 42949738497, 47244705793, 51539673089, 55834640385, 60129607681], [64424574977, 68719542273, 73014509569, 77309476865, 81604444161, 85899411457, 90194378753, 94489346049], [98784313345, 103079280641, 107374247937, 111669215233, 115964182529, 120259149825, 124554117121, 128849084417], [133144051713, 137439019009, 141733986305, 146028953601, 150323920897, 154618888193, 158913855489, 163208822785], [167503790081, 171798757377, 176093724673, 180388691969, 184683659265, 188978626561, 193273593857, 197568561153], [201863528449, 206158495745, 210453463041, 214748430337, 219043397633, 223338364929, 227633332225, 231928299521], [236223266817, 240518234113, 244813201409, 249108168705, 253403136001, 257698103297, 1023410177]]
noncomputable def vd_656_0 : List (List (List Nat)) := [vd_656_0_0]
noncomputable def vd_656 : List (List (List (List Nat))) := [vd_656_0]
noncomputable def vt_656 : List (List am_I) := []
noncomputable def vc_656 : vm_C := (fun _ => vp_656, fun pc => [], [6], 63, vm_inst 8 62 vt_656 vf_656 vd_656)
theorem vx_656_0 : vm_chk bt_199 [] vk_656 11 vc_656 0 15 = true := by decide +kernel
theorem vx_656_1 : vm_chk bt_199 [] vk_656 11 vc_656 15 15 = true := by decide +kernel
theorem vx_656_2 : vm_chk bt_199 [] vk_656 11 vc_656 30 15 = true := by decide +kernel
theorem vx_656_3 : vm_chk bt_199 [] vk_656 11 vc_656 45 15 = true := by decide +kernel
theorem vx_656_4 : vm_chk bt_199 [] vk_656 11 vc_656 60 3 = true := by decide +kernel
theorem vy_656 : vm_ents 199 11 vc_656 ve_656 = true := by decide +kernel
theorem vw_656 : ∀ q ∈ vk_656, vm_wt 6 q := vm_wts (vm_kc (vm_up v_482 rfl) (vm_kc (vm_up v_558 rfl) vm_kn)) (by decide +kernel)
theorem v_656 : vm_at 7 q_656 := vm_ok (inl := []) (es := ve_656) bq_199 (by decide) vw_656 vy_656 (fun i => vm_hc vx_656_4 rfl (vm_hc vx_656_3 rfl (vm_hc vx_656_2 rfl (vm_hc vx_656_1 rfl (vm_hc vx_656_0 rfl (fun h => absurd h (Nat.not_lt_zero _))))))) _ List.mem_cons_self
noncomputable def vp_657 : List vm_R := [(some (.inl (.negSucc 3, .ofNat 60)), va_h0)]
noncomputable def ve_657 : List vm_E := [([.inr (.inr (some 70)), .inl am_top], va_h0, 0, [0])]
noncomputable def q_657 : vm_Q := (200, [.inr (.inr (some 70)), .inl am_top], va_h0, vp_657)
noncomputable def vk_657 : List vm_U := [(q_637, true, []), (q_482, false, []), (q_558, false, [])]
noncomputable def vf_657 : List ((Nat → am_I) → vm_A) := [fun v => (0, [(0, .inr (.inr (some 70))), (1, .inl am_top)], [], (80, [])), fun v => (18, [(0, .inr (.inr (some 70))), (1, .inl am_top), (2, .inl (.ofNat 0, .ofNat 0))], [], (80, [])), fun v => (40, [(0, .inr (.inr (some 70))), (1, .inl am_top), (2, .inl (v 0)), (3, .inl (v 1))], [], (80, [])), fun v => (99, [(0, .inr (.inr (some 70))), (1, .inl am_top), (2, .inl (v 0)), (3, .inl (v 1))], [], (80, [])), fun v => (18, [(0, .inr (.inr (some 70))), (1, .inl am_top), (2, .inl (v 0)), (3, .inl am_top)], [], (80, []))]
noncomputable def vd_657_0_0 : List (List Nat) := [[65536, 65537, 25769934850, 281496451678210, 562967133421570, 844437815164930, 1125908496908290, 1407379178651650], [6597069832194, 65539, 4295032836, 1125281562626, 282595963305986, 564066645049346, 845537326792706, 1127008008536066], [1408478690279426, 6601364799490, 4295032835, 1103806660611, 8590000132, 2224793190402, 283695474933762, 565166156677122], [846636838420482, 1128107520163842, 1409578201907202, 6605659766786, 8590000131, 1108101627907, 2207613255683, 12884967428], [3324304818178, 284794986561538, 566265668304898, 847736350048258, 1129207031791618, 1410677713534978, 6609954734082, 12884967427], [1112396595203, 2211908222979, 3311419850755, 17179934724, 4423816445954, 285894498189314, 567365179932674, 848835861676034], [1130306543419394, 1411777225162754, 6614249701378, 17179934723, 1116691562499, 2216203190275, 3315714818051, 4415226445827], [21474902020, 5523328073730, 286994009817090, 568464691560450, 849935373303810, 1131406055047170, 1412876736790530, 6618544668674]]
noncomputable def vd_657_0_1 : List (List Nat) := [[21474902019, 1120986529795, 2220498157571, 3320009785347, 4419521413123, 5519033040899, 25769869316, 6622839701506], [288093521444866, 569564203188226, 851034884931586, 1132505566674946, 1413976248418306, 6622839635970, 25769869315, 1125281497091], [2224793124867, 3324304752643, 4423816380419, 5523328008195, 6622839635971, 30064836612, 7722351329282, 289193033072642], [570663714816002, 852134396559362, 1133605078302722, 1415075760046082, 6627134603266, 30064836611, 1129576464387, 2229088092163], [3328599719939, 4428111347715, 5527622975491, 6627134603267, 7726646231043, 34359803908, 8821862957058, 290292544700418], [571763226443778, 853233908187138, 1134704589930498, 1416175271673858, 6631429570562, 34359803907, 1133871431683, 2233383059459], [3332894687235, 4432406315011, 5531917942787, 6631429570563, 7730941198339, 8830452826115, 38654771204, 9921374584834], [291392056328194, 572862738071554, 854333419814914, 1135804101558274, 1417274783301634, 6635724537858, 38654771203, 1138166398979]]
noncomputable def vd_657_0_2 : List (List Nat) := [[2237678026755, 3337189654531, 4436701282307, 5536212910083, 6635724537859, 7735236165635, 8834747793411, 9934259421187], [42949738500, 11020886212610, 292491567955970, 573962249699330, 855432931442690, 1136903613186050, 1418374294929410, 6640019505154], [42949738499, 1142461366275, 2241972994051, 3341484621827, 4440996249603, 5540507877379, 6640019505155, 7739531132931], [8839042760707, 9938554388483, 11038066016259, 47244705796, 12120397840386, 293591079583746, 575061761327106, 856532443070466], [1138003124813826, 1419473806557186, 6644314472450, 47244705795, 1146756333571, 2246267961347, 3345779589123, 4445291216899], [5544802844675, 6644314472451, 7743826100227, 8843337728003, 9942849355779, 11042360983555, 12141872611331, 51539673092], [13219909468162, 294690591211522, 576161272954882, 857631954698242, 1139102636441602, 1420573318184962, 6648609439746, 51539673091], [1151051300867, 2250562928643, 3350074556419, 4449586184195, 5549097811971, 6648609439747, 7748121067523, 8847632695299]]
noncomputable def vd_657_0_3 : List (List Nat) := [[9947144323075, 11046655950851, 12146167578627, 13245679206403, 55834640388, 14319421095938, 295790102839298, 577260784582658], [858731466326018, 1140202148069378, 1421672829812738, 6652904407042, 55834640387, 1155346268163, 2254857895939, 3354369523715], [4453881151491, 5553392779267, 6652904407043, 7752416034819, 8851927662595, 9951439290371, 11050950918147, 12150462545923], [13249974173699, 14349485801475, 60129607684, 15418932723714, 296889614467074, 578360296210434, 859830977953794, 1141301659697154], [1422772341440514, 6657199374338, 60129607683, 1159641235459, 2259152863235, 3358664491011, 4458176118787, 5557687746563], [6657199374339, 7756711002115, 8856222629891, 9955734257667, 11055245885443, 12154757513219, 13254269140995, 14353780768771], [15453292396547, 64424574980, 16518444351490, 297989126094850, 579459807838210, 860930489581570, 1142401171324930, 1423871853068290], [6661494341634, 64424574979, 1163936202755, 2263447830531, 3362959458307, 4462471086083, 5561982713859, 6661494341635]]
noncomputable def vd_657_0_4 : List (List Nat) := [[7761005969411, 8860517597187, 9960029224963, 11059540852739, 12159052480515, 13258564108291, 14358075736067, 15457587363843], [16557098991619, 68719542276, 17617955979266, 299088637722626, 580559319465986, 862030001209346, 1143500682952706, 1424971364696066], [6665789308930, 68719542275, 1168231170051, 2267742797827, 3367254425603, 4466766053379, 5566277681155, 6665789308931], [7765300936707, 8864812564483, 9964324192259, 11063835820035, 12163347447811, 13262859075587, 14362370703363, 15461882331139], [16561393958915, 17660905586691, 73014509572, 18717467607042, 300188149350402, 581658831093762, 863129512837122, 1144600194580482], [1426070876323842, 6670084276226, 73014509571, 1172526137347, 2272037765123, 3371549392899, 4471061020675, 5570572648451], [6670084276227, 7769595904003, 8869107531779, 9968619159555, 11068130787331, 12167642415107, 13267154042883, 14366665670659], [15466177298435, 16565688926211, 17665200553987, 18764712181763, 77309476868, 19816979234818, 301287660978178, 582758342721538]]
noncomputable def vd_657_0_5 : List (List Nat) := [[864229024464898, 1145699706208258, 1427170387951618, 6674379243522, 77309476867, 1176821104643, 2276332732419, 3375844360195], [4475355987971, 5574867615747, 6674379243523, 7773890871299, 8873402499075, 9972914126851, 11072425754627, 12171937382403], [13271449010179, 14370960637955, 15470472265731, 16569983893507, 17669495521283, 18769007149059, 19868518776835, 81604444164], [20916490862594, 302387172605954, 583857854349314, 865328536092674, 1146799217836034, 1428269899579394, 6678674210818, 81604444163], [1181116071939, 2280627699715, 3380139327491, 4479650955267, 5579162583043, 6678674210819, 7778185838595, 8877697466371], [9977209094147, 11076720721923, 12176232349699, 13275743977475, 14375255605251, 15474767233027, 16574278860803, 17673790488579], [18773302116355, 19872813744131, 20972325371907, 85899411460, 22016002490370, 303486684233730, 584957365977090, 866428047720450], [1147898729463810, 1429369411207170, 6682969178114, 85899411459, 1185411039235, 2284922667011, 3384434294787, 4483945922563]]
noncomputable def vd_657_0_6 : List (List Nat) := [[5583457550339, 6682969178115, 7782480805891, 8881992433667, 9981504061443, 11081015689219, 12180527316995, 13280038944771], [14379550572547, 15479062200323, 16578573828099, 17678085455875, 18777597083651, 19877108711427, 20976620339203, 22076131966979], [90194378756, 23115514118146, 304586195861506, 586056877604866, 867527559348226, 1148998241091586, 1430468922834946, 6687264145410], [90194378755, 1189706006531, 2289217634307, 3388729262083, 4488240889859, 5587752517635, 6687264145411, 7786775773187], [8886287400963, 9985799028739, 11085310656515, 12184822284291, 13284333912067, 14383845539843, 15483357167619, 16582868795395], [17682380423171, 18781892050947, 19881403678723, 20980915306499, 22080426934275, 23179938562051, 94489346052, 24215025745922], [305685707489282, 587156389232642, 868627070976002, 1150097752719362, 1431568434462722, 6691559112706, 94489346051, 1194000973827], [2293512601603, 3393024229379, 4492535857155, 5592047484931, 6691559112707, 7791070740483, 8890582368259, 9990093996035]]
noncomputable def vd_657_0_7 : List (List Nat) := [[11089605623811, 12189117251587, 13288628879363, 14388140507139, 15487652134915, 16587163762691, 17686675390467, 18786187018243], [19885698646019, 20985210273795, 22084721901571, 23184233529347, 24283745157123, 98784313348, 25314537373698, 306785219117058], [588255900860418, 869726582603778, 1151197264347138, 1432667946090498, 6695854080002, 98784313347, 1198295941123, 2297807568899], [3397319196675, 4496830824451, 5596342452227, 6695854080003, 7795365707779, 8894877335555, 9994388963331, 11093900591107], [12193412218883, 13292923846659, 14392435474435, 15491947102211, 16591458729987, 17690970357763, 18790481985539, 19889993613315], [20989505241091, 22089016868867, 23188528496643, 24288040124419, 25387551752195, 103079280644, 26414049001474, 307884730744834], [589355412488194, 870826094231554, 1152296775974914, 1433767457718274, 6700149047298, 103079280643, 1202590908419, 2302102536195], [3401614163971, 4501125791747, 5600637419523, 6700149047299, 7799660675075, 8899172302851, 9998683930627, 11098195558403]]
noncomputable def vd_657_0 : List (List (List Nat)) := [vd_657_0_0, vd_657_0_1, vd_657_0_2, vd_657_0_3, vd_657_0_4, vd_657_0_5, vd_657_0_6, vd_657_0_7]
noncomputable def vd_657_1_0 : List (List Nat) := [[12197707186179, 13297218813955, 14396730441731, 15496242069507, 16595753697283, 17695265325059, 18794776952835, 19894288580611], [20993800208387, 22093311836163, 23192823463939, 24292335091715, 25391846719491, 26491358347267, 107374247940, 27513560629250], [308984242372610, 590454924115970, 871925605859330, 1153396287602690, 1434866969346050, 6704444014594, 107374247939, 1206885875715], [2306397503491, 3405909131267, 4505420759043, 5604932386819, 6704444014595, 7803955642371, 8903467270147, 10002978897923], [11102490525699, 12202002153475, 13301513781251, 14401025409027, 15500537036803, 16600048664579, 17699560292355, 18799071920131], [19898583547907, 20998095175683, 22097606803459, 23197118431235, 24296630059011, 25396141686787, 26495653314563, 27595164942339], [111669215236, 28613072257026, 310083754000386, 591554435743746, 873025117487106, 1154495799230466, 1435966480973826, 6708738981890], [111669215235, 1211180843011, 2310692470787, 3410204098563, 4509715726339, 5609227354115, 6708738981891, 7808250609667]]
noncomputable def vd_657_1_1 : List (List Nat) := [[8907762237443, 10007273865219, 11106785492995, 12206297120771, 13305808748547, 14405320376323, 15504832004099, 16604343631875], [17703855259651, 18803366887427, 19902878515203, 21002390142979, 22101901770755, 23201413398531, 24300925026307, 25400436654083], [26499948281859, 27599459909635, 28698971537411, 115964182532, 29712583884802, 311183265628162, 592653947371522, 874124629114882], [1155595310858242, 1437065992601602, 6713033949186, 115964182531, 1215475810307, 2314987438083, 3414499065859, 4514010693635], [5613522321411, 6713033949187, 7812545576963, 8912057204739, 10011568832515, 11111080460291, 12210592088067, 13310103715843], [14409615343619, 15509126971395, 16608638599171, 17708150226947, 18807661854723, 19907173482499, 21006685110275, 22106196738051], [23205708365827, 24305219993603, 25404731621379, 26504243249155, 27603754876931, 28703266504707, 29802778132483, 120259149828], [30812095512578, 312282777255938, 593753458999298, 875224140742658, 1156694822486018, 1438165504229378, 6717328916482, 120259149827]]
noncomputable def vd_657_1_2 : List (List Nat) := [[1219770777603, 2319282405379, 3418794033155, 4518305660931, 5617817288707, 6717328916483, 7816840544259, 8916352172035], [10015863799811, 11115375427587, 12214887055363, 13314398683139, 14413910310915, 15513421938691, 16612933566467, 17712445194243], [18811956822019, 19911468449795, 21010980077571, 22110491705347, 23210003333123, 24309514960899, 25409026588675, 26508538216451], [27608049844227, 28707561472003, 29807073099779, 30906584727555, 124554117124, 31911607140354, 313382288883714, 594852970627074], [876323652370434, 1157794334113794, 1439265015857154, 6721623883778, 124554117123, 1224065744899, 2323577372675, 3423089000451], [4522600628227, 5622112256003, 6721623883779, 7821135511555, 8920647139331, 10020158767107, 11119670394883, 12219182022659], [13318693650435, 14418205278211, 15517716905987, 16617228533763, 17716740161539, 18816251789315, 19915763417091, 21015275044867], [22114786672643, 23214298300419, 24313809928195, 25413321555971, 26512833183747, 27612344811523, 28711856439299, 29811368067075]]
noncomputable def vd_657_1_3 : List (List Nat) := [[30910879694851, 32010391322627, 128849084420, 33011118768130, 314481800511490, 595952482254850, 877423163998210, 1158893845741570], [1440364527484930, 6725918851074, 128849084419, 1228360712195, 2327872339971, 3427383967747, 4526895595523, 5626407223299], [6725918851075, 7825430478851, 8924942106627, 10024453734403, 11123965362179, 12223476989955, 13322988617731, 14422500245507], [15522011873283, 16621523501059, 17721035128835, 18820546756611, 19920058384387, 21019570012163, 22119081639939, 23218593267715], [24318104895491, 25417616523267, 26517128151043, 27616639778819, 28716151406595, 29815663034371, 30915174662147, 32014686289923], [33114197917699, 133144051716, 34110630395906, 315581312139266, 597051993882626, 878522675625986, 1159993357369346, 1441464039112706], [6730213818370, 133144051715, 1232655679491, 2332167307267, 3431678935043, 4531190562819, 5630702190595, 6730213818371], [7829725446147, 8929237073923, 10028748701699, 11128260329475, 12227771957251, 13327283585027, 14426795212803, 15526306840579]]
noncomputable def vd_657_1_4 : List (List Nat) := [[16625818468355, 17725330096131, 18824841723907, 19924353351683, 21023864979459, 22123376607235, 23222888235011, 24322399862787], [25421911490563, 26521423118339, 27620934746115, 28720446373891, 29819958001667, 30919469629443, 32018981257219, 33118492884995], [34218004512771, 137439019012, 35210142023682, 316680823767042, 598151505510402, 879622187253762, 1161092868997122, 1442563550740482], [6734508785666, 137439019011, 1236950646787, 2336462274563, 3435973902339, 4535485530115, 5634997157891, 6734508785667], [7834020413443, 8933532041219, 10033043668995, 11132555296771, 12232066924547, 13331578552323, 14431090180099, 15530601807875], [16630113435651, 17729625063427, 18829136691203, 19928648318979, 21028159946755, 22127671574531, 23227183202307, 24326694830083], [25426206457859, 26525718085635, 27625229713411, 28724741341187, 29824252968963, 30923764596739, 32023276224515, 33122787852291], [34222299480067, 35321811107843, 141733986308, 36309653651458, 317780335394818, 599251017138178, 880721698881538, 1162192380624898]]
noncomputable def vd_657_1_5 : List (List Nat) := [[1443663062368258, 6738803752962, 141733986307, 1241245614083, 2340757241859, 3440268869635, 4539780497411, 5639292125187], [6738803752963, 7838315380739, 8937827008515, 10037338636291, 11136850264067, 12236361891843, 13335873519619, 14435385147395], [15534896775171, 16634408402947, 17733920030723, 18833431658499, 19932943286275, 21032454914051, 22131966541827, 23231478169603], [24330989797379, 25430501425155, 26530013052931, 27629524680707, 28729036308483, 29828547936259, 30928059564035, 32027571191811], [33127082819587, 34226594447363, 35326106075139, 36425617702915, 146028953604, 37409165279234, 318879847022594, 600350528765954], [881821210509314, 1163291892252674, 1444762573996034, 6743098720258, 146028953603, 1245540581379, 2345052209155, 3444563836931], [4544075464707, 5643587092483, 6743098720259, 7842610348035, 8942121975811, 10041633603587, 11141145231363, 12240656859139], [13340168486915, 14439680114691, 15539191742467, 16638703370243, 17738214998019, 18837726625795, 19937238253571, 21036749881347]]
noncomputable def vd_657_1_6 : List (List Nat) := [[22136261509123, 23235773136899, 24335284764675, 25434796392451, 26534308020227, 27633819648003, 28733331275779, 29832842903555], [30932354531331, 32031866159107, 33131377786883, 34230889414659, 35330401042435, 36429912670211, 37529424297987, 150323920900], [38508676907010, 319979358650370, 601450040393730, 882920722137090, 1164391403880450, 1445862085623810, 6747393687554, 150323920899], [1249835548675, 2349347176451, 3448858804227, 4548370432003, 5647882059779, 6747393687555, 7846905315331, 8946416943107], [10045928570883, 11145440198659, 12244951826435, 13344463454211, 14443975081987, 15543486709763, 16642998337539, 17742509965315], [18842021593091, 19941533220867, 21041044848643, 22140556476419, 23240068104195, 24339579731971, 25439091359747, 26538602987523], [27638114615299, 28737626243075, 29837137870851, 30936649498627, 32036161126403, 33135672754179, 34235184381955, 35334696009731], [36434207637507, 37533719265283, 38633230893059, 154618888196, 39608188534786, 321078870278146, 602549552021506, 884020233764866]]
noncomputable def vd_657_1_7 : List (List Nat) := [[1165490915508226, 1446961597251586, 6751688654850, 154618888195, 1254130515971, 2353642143747, 3453153771523, 4552665399299], [5652177027075, 6751688654851, 7851200282627, 8950711910403, 10050223538179, 11149735165955, 12249246793731, 13348758421507], [14448270049283, 15547781677059, 16647293304835, 17746804932611, 18846316560387, 19945828188163, 21045339815939, 22144851443715], [23244363071491, 24343874699267, 25443386327043, 26542897954819, 27642409582595, 28741921210371, 29841432838147, 30940944465923], [32040456093699, 33139967721475, 34239479349251, 35338990977027, 36438502604803, 37538014232579, 38637525860355, 39737037488131], [158913855492, 40707700162562, 322178381905922, 603649063649282, 885119745392642, 1166590427136002, 1448061108879362, 6755983622146], [158913855491, 1258425483267, 2357937111043, 3457448738819, 4556960366595, 5656471994371, 6755983622147, 7855495249923], [8955006877699, 10054518505475, 11154030133251, 12253541761027, 13353053388803, 14452565016579, 15552076644355, 16651588272131]]
noncomputable def vd_657_1 : List (List (List Nat)) := [vd_657_1_0, vd_657_1_1, vd_657_1_2, vd_657_1_3, vd_657_1_4, vd_657_1_5, vd_657_1_6, vd_657_1_7]
noncomputable def vd_657_2_0 : List (List Nat) := [[17751099899907, 18850611527683, 19950123155459, 21049634783235, 22149146411011, 23248658038787, 24348169666563, 25447681294339], [26547192922115, 27646704549891, 28746216177667, 29845727805443, 30945239433219, 32044751060995, 33144262688771, 34243774316547], [35343285944323, 36442797572099, 37542309199875, 38641820827651, 39741332455427, 40840844083203, 163208822788, 41807211790338], [323277893533698, 604748575277058, 886219257020418, 1167689938763778, 1449160620507138, 6760278589442, 163208822787, 1262720450563], [2362232078339, 3461743706115, 4561255333891, 5660766961667, 6760278589443, 7859790217219, 8959301844995, 10058813472771], [11158325100547, 12257836728323, 13357348356099, 14456859983875, 15556371611651, 16655883239427, 17755394867203, 18854906494979], [19954418122755, 21053929750531, 22153441378307, 23252953006083, 24352464633859, 25451976261635, 26551487889411, 27650999517187], [28750511144963, 29850022772739, 30949534400515, 32049046028291, 33148557656067, 34248069283843, 35347580911619, 36447092539395]]
noncomputable def vd_657_2_1 : List (List Nat) := [[37546604167171, 38646115794947, 39745627422723, 40845139050499, 41944650678275, 167503790084, 42906723418114, 324377405161474], [605848086904834, 887318768648194, 1168789450391554, 1450260132134914, 6764573556738, 167503790083, 1267015417859, 2366527045635], [3466038673411, 4565550301187, 5665061928963, 6764573556739, 7864085184515, 8963596812291, 10063108440067, 11162620067843], [12262131695619, 13361643323395, 14461154951171, 15560666578947, 16660178206723, 17759689834499, 18859201462275, 19958713090051], [21058224717827, 22157736345603, 23257247973379, 24356759601155, 25456271228931, 26555782856707, 27655294484483, 28754806112259], [29854317740035, 30953829367811, 32053340995587, 33152852623363, 34252364251139, 35351875878915, 36451387506691, 37550899134467], [38650410762243, 39749922390019, 40849434017795, 41948945645571, 43048457273347, 171798757380, 44006235045890, 325476916789250], [606947598532610, 888418280275970, 1169888962019330, 1451359643762690, 6768868524034, 171798757379, 1271310385155, 2370822012931]]
noncomputable def vd_657_2_2 : List (List Nat) := [[3470333640707, 4569845268483, 5669356896259, 6768868524035, 7868380151811, 8967891779587, 10067403407363, 11166915035139], [12266426662915, 13365938290691, 14465449918467, 15564961546243, 16664473174019, 17763984801795, 18863496429571, 19963008057347], [21062519685123, 22162031312899, 23261542940675, 24361054568451, 25460566196227, 26560077824003, 27659589451779, 28759101079555], [29858612707331, 30958124335107, 32057635962883, 33157147590659, 34256659218435, 35356170846211, 36455682473987, 37555194101763], [38654705729539, 39754217357315, 40853728985091, 41953240612867, 43052752240643, 44152263868419, 176093724676, 45105746673666], [326576428417026, 608047110160386, 889517791903746, 1170988473647106, 1452459155390466, 6773163491330, 176093724675, 1275605352451], [2375116980227, 3474628608003, 4574140235779, 5673651863555, 6773163491331, 7872675119107, 8972186746883, 10071698374659], [11171210002435, 12270721630211, 13370233257987, 14469744885763, 15569256513539, 16668768141315, 17768279769091, 18867791396867]]
noncomputable def vd_657_2_3 : List (List Nat) := [[19967303024643, 21066814652419, 22166326280195, 23265837907971, 24365349535747, 25464861163523, 26564372791299, 27663884419075], [28763396046851, 29862907674627, 30962419302403, 32061930930179, 33161442557955, 34260954185731, 35360465813507, 36459977441283], [37559489069059, 38659000696835, 39758512324611, 40858023952387, 41957535580163, 43057047207939, 44156558835715, 45256070463491], [180388691972, 46205258301442, 327675940044802, 609146621788162, 890617303531522, 1172087985274882, 1453558667018242, 6777458458626], [180388691971, 1279900319747, 2379411947523, 3478923575299, 4578435203075, 5677946830851, 6777458458627, 7876970086403], [8976481714179, 10075993341955, 11175504969731, 12275016597507, 13374528225283, 14474039853059, 15573551480835, 16673063108611], [17772574736387, 18872086364163, 19971597991939, 21071109619715, 22170621247491, 23270132875267, 24369644503043, 25469156130819], [26568667758595, 27668179386371, 28767691014147, 29867202641923, 30966714269699, 32066225897475, 33165737525251, 34265249153027]]
noncomputable def vd_657_2_4 : List (List Nat) := [[35364760780803, 36464272408579, 37563784036355, 38663295664131, 39762807291907, 40862318919683, 41961830547459, 43061342175235], [44160853803011, 45260365430787, 46359877058563, 184683659268, 47304769929218, 328775451672578, 610246133415938, 891716815159298], [1173187496902658, 1454658178646018, 6781753425922, 184683659267, 1284195287043, 2383706914819, 3483218542595, 4582730170371], [5682241798147, 6781753425923, 7881265053699, 8980776681475, 10080288309251, 11179799937027, 12279311564803, 13378823192579], [14478334820355, 15577846448131, 16677358075907, 17776869703683, 18876381331459, 19975892959235, 21075404587011, 22174916214787], [23274427842563, 24373939470339, 25473451098115, 26572962725891, 27672474353667, 28771985981443, 29871497609219, 30971009236995], [32070520864771, 33170032492547, 34269544120323, 35369055748099, 36468567375875, 37568079003651, 38667590631427, 39767102259203], [40866613886979, 41966125514755, 43065637142531, 44165148770307, 45264660398083, 46364172025859, 47463683653635, 188978626564]]
noncomputable def vd_657_2_5 : List (List Nat) := [[48404281556994, 329874963300354, 611345645043714, 892816326787074, 1174287008530434, 1455757690273794, 6786048393218, 188978626563], [1288490254339, 2388001882115, 3487513509891, 4587025137667, 5686536765443, 6786048393219, 7885560020995, 8985071648771], [10084583276547, 11184094904323, 12283606532099, 13383118159875, 14482629787651, 15582141415427, 16681653043203, 17781164670979], [18880676298755, 19980187926531, 21079699554307, 22179211182083, 23278722809859, 24378234437635, 25477746065411, 26577257693187], [27676769320963, 28776280948739, 29875792576515, 30975304204291, 32074815832067, 33174327459843, 34273839087619, 35373350715395], [36472862343171, 37572373970947, 38671885598723, 39771397226499, 40870908854275, 41970420482051, 43069932109827, 44169443737603], [45268955365379, 46368466993155, 47467978620931, 48567490248707, 193273593860, 49503793184770, 330974474928130, 612445156671490], [893915838414850, 1175386520158210, 1456857201901570, 6790343360514, 193273593859, 1292785221635, 2392296849411, 3491808477187]]
noncomputable def vd_657_2_6 : List (List Nat) := [[4591320104963, 5690831732739, 6790343360515, 7889854988291, 8989366616067, 10088878243843, 11188389871619, 12287901499395], [13387413127171, 14486924754947, 15586436382723, 16685948010499, 17785459638275, 18884971266051, 19984482893827, 21083994521603], [22183506149379, 23283017777155, 24382529404931, 25482041032707, 26581552660483, 27681064288259, 28780575916035, 29880087543811], [30979599171587, 32079110799363, 33178622427139, 34278134054915, 35377645682691, 36477157310467, 37576668938243, 38676180566019], [39775692193795, 40875203821571, 41974715449347, 43074227077123, 44173738704899, 45273250332675, 46372761960451, 47472273588227], [48571785216003, 49671296843779, 197568561156, 50603304812546, 332073986555906, 613544668299266, 895015350042626, 1176486031785986], [1457956713529346, 6794638327810, 197568561155, 1297080188931, 2396591816707, 3496103444483, 4595615072259, 5695126700035], [6794638327811, 7894149955587, 8993661583363, 10093173211139, 11192684838915, 12292196466691, 13391708094467, 14491219722243]]
noncomputable def vd_657_2_7 : List (List Nat) := [[15590731350019, 16690242977795, 17789754605571, 18889266233347, 19988777861123, 21088289488899, 22187801116675, 23287312744451], [24386824372227, 25486336000003, 26585847627779, 27685359255555, 28784870883331, 29884382511107, 30983894138883, 32083405766659], [33182917394435, 34282429022211, 35381940649987, 36481452277763, 37580963905539, 38680475533315, 39779987161091, 40879498788867], [41979010416643, 43078522044419, 44178033672195, 45277545299971, 46377056927747, 47476568555523, 48576080183299, 49675591811075], [50775103438851, 201863528452, 51702816440322, 333173498183682, 614644179927042, 896114861670402, 1177585543413762, 1459056225157122], [6798933295106, 201863528451, 1301375156227, 2400886784003, 3500398411779, 4599910039555, 5699421667331, 6798933295107], [7898444922883, 8997956550659, 10097468178435, 11196979806211, 12296491433987, 13396003061763, 14495514689539, 15595026317315], [16694537945091, 17794049572867, 18893561200643, 19993072828419, 21092584456195, 22192096083971, 23291607711747, 24391119339523]]
noncomputable def vd_657_2 : List (List (List Nat)) := [vd_657_2_0, vd_657_2_1, vd_657_2_2, vd_657_2_3, vd_657_2_4, vd_657_2_5, vd_657_2_6, vd_657_2_7]
noncomputable def vd_657_3_0 : List (List Nat) := [[25490630967299, 26590142595075, 27689654222851, 28789165850627, 29888677478403, 30988189106179, 32087700733955, 33187212361731], [34286723989507, 35386235617283, 36485747245059, 37585258872835, 38684770500611, 39784282128387, 40883793756163, 41983305383939], [43082817011715, 44182328639491, 45281840267267, 46381351895043, 47480863522819, 48580375150595, 49679886778371, 50779398406147], [51878910033923, 206158495748, 52802328068098, 334273009811458, 615743691554818, 897214373298178, 1178685055041538, 1460155736784898], [6803228262402, 206158495747, 1305670123523, 2405181751299, 3504693379075, 4604205006851, 5703716634627, 6803228262403], [7902739890179, 9002251517955, 10101763145731, 11201274773507, 12300786401283, 13400298029059, 14499809656835, 15599321284611], [16698832912387, 17798344540163, 18897856167939, 19997367795715, 21096879423491, 22196391051267, 23295902679043, 24395414306819], [25494925934595, 26594437562371, 27693949190147, 28793460817923, 29892972445699, 30992484073475, 32091995701251, 33191507329027]]
noncomputable def vd_657_3_1 : List (List Nat) := [[34291018956803, 35390530584579, 36490042212355, 37589553840131, 38689065467907, 39788577095683, 40888088723459, 41987600351235], [43087111979011, 44186623606787, 45286135234563, 46385646862339, 47485158490115, 48584670117891, 49684181745667, 50783693373443], [51883205001219, 52982716628995, 210453463044, 53901839695874, 335372521439234, 616843203182594, 898313884925954, 1179784566669314], [1461255248412674, 6807523229698, 210453463043, 1309965090819, 2409476718595, 3508988346371, 4608499974147, 5708011601923], [6807523229699, 7907034857475, 9006546485251, 10106058113027, 11205569740803, 12305081368579, 13404592996355, 14504104624131], [15603616251907, 16703127879683, 17802639507459, 18902151135235, 20001662763011, 21101174390787, 22200686018563, 23300197646339], [24399709274115, 25499220901891, 26598732529667, 27698244157443, 28797755785219, 29897267412995, 30996779040771, 32096290668547], [33195802296323, 34295313924099, 35394825551875, 36494337179651, 37593848807427, 38693360435203, 39792872062979, 40892383690755]]
noncomputable def vd_657_3_2 : List (List Nat) := [[41991895318531, 43091406946307, 44190918574083, 45290430201859, 46389941829635, 47489453457411, 48588965085187, 49688476712963], [50787988340739, 51887499968515, 52987011596291, 54086523224067, 214748430340, 55001351323650, 336472033067010, 617942714810370], [899413396553730, 1180884078297090, 1462354760040450, 6811818196994, 214748430339, 1314260058115, 2413771685891, 3513283313667], [4612794941443, 5712306569219, 6811818196995, 7911329824771, 9010841452547, 10110353080323, 11209864708099, 12309376335875], [13408887963651, 14508399591427, 15607911219203, 16707422846979, 17806934474755, 18906446102531, 20005957730307, 21105469358083], [22204980985859, 23304492613635, 24404004241411, 25503515869187, 26603027496963, 27702539124739, 28802050752515, 29901562380291], [31001074008067, 32100585635843, 33200097263619, 34299608891395, 35399120519171, 36498632146947, 37598143774723, 38697655402499], [39797167030275, 40896678658051, 41996190285827, 43095701913603, 44195213541379, 45294725169155, 46394236796931, 47493748424707]]
noncomputable def vd_657_3_3 : List (List Nat) := [[48593260052483, 49692771680259, 50792283308035, 51891794935811, 52991306563587, 54090818191363, 55190329819139, 219043397636], [56100862951426, 337571544694786, 619042226438146, 900512908181506, 1181983589924866, 1463454271668226, 6816113164290, 219043397635], [1318555025411, 2418066653187, 3517578280963, 4617089908739, 5716601536515, 6816113164291, 7915624792067, 9015136419843], [10114648047619, 11214159675395, 12313671303171, 13413182930947, 14512694558723, 15612206186499, 16711717814275, 17811229442051], [18910741069827, 20010252697603, 21109764325379, 22209275953155, 23308787580931, 24408299208707, 25507810836483, 26607322464259], [27706834092035, 28806345719811, 29905857347587, 31005368975363, 32104880603139, 33204392230915, 34303903858691, 35403415486467], [36502927114243, 37602438742019, 38701950369795, 39801461997571, 40900973625347, 42000485253123, 43099996880899, 44199508508675], [45299020136451, 46398531764227, 47498043392003, 48597555019779, 49697066647555, 50796578275331, 51896089903107, 52995601530883]]
noncomputable def vd_657_3_4 : List (List Nat) := [[54095113158659, 55194624786435, 56294136414211, 223338364932, 57200374579202, 338671056322562, 620141738065922, 901612419809282], [1183083101552642, 1464553783296002, 6820408131586, 223338364931, 1322849992707, 2422361620483, 3521873248259, 4621384876035], [5720896503811, 6820408131587, 7919919759363, 9019431387139, 10118943014915, 11218454642691, 12317966270467, 13417477898243], [14516989526019, 15616501153795, 16716012781571, 17815524409347, 18915036037123, 20014547664899, 21114059292675, 22213570920451], [23313082548227, 24412594176003, 25512105803779, 26611617431555, 27711129059331, 28810640687107, 29910152314883, 31009663942659], [32109175570435, 33208687198211, 34308198825987, 35407710453763, 36507222081539, 37606733709315, 38706245337091, 39805756964867], [40905268592643, 42004780220419, 43104291848195, 44203803475971, 45303315103747, 46402826731523, 47502338359299, 48601849987075], [49701361614851, 50800873242627, 51900384870403, 52999896498179, 54099408125955, 55198919753731, 56298431381507, 57397943009283]]
noncomputable def vd_657_3_5 : List (List Nat) := [[227633332228, 58299886206978, 339770567950338, 621241249693698, 902711931437058, 1184182613180418, 1465653294923778, 6824703098882], [227633332227, 1327144960003, 2426656587779, 3526168215555, 4625679843331, 5725191471107, 6824703098883, 7924214726659], [9023726354435, 10123237982211, 11222749609987, 12322261237763, 13421772865539, 14521284493315, 15620796121091, 16720307748867], [17819819376643, 18919331004419, 20018842632195, 21118354259971, 22217865887747, 23317377515523, 24416889143299, 25516400771075], [26615912398851, 27715424026627, 28814935654403, 29914447282179, 31013958909955, 32113470537731, 33212982165507, 34312493793283], [35412005421059, 36511517048835, 37611028676611, 38710540304387, 39810051932163, 40909563559939, 42009075187715, 43108586815491], [44208098443267, 45307610071043, 46407121698819, 47506633326595, 48606144954371, 49705656582147, 50805168209923, 51904679837699], [53004191465475, 54103703093251, 55203214721027, 56302726348803, 57402237976579, 58501749604355, 231928299524, 59399397834754]]
noncomputable def vd_657_3_6 : List (List Nat) := [[340870079578114, 622340761321474, 903811443064834, 1185282124808194, 1466752806551554, 6828998066178, 231928299523, 1331439927299], [2430951555075, 3530463182851, 4629974810627, 5729486438403, 6828998066179, 7928509693955, 9028021321731, 10127532949507], [11227044577283, 12326556205059, 13426067832835, 14525579460611, 15625091088387, 16724602716163, 17824114343939, 18923625971715], [20023137599491, 21122649227267, 22222160855043, 23321672482819, 24421184110595, 25520695738371, 26620207366147, 27719718993923], [28819230621699, 29918742249475, 31018253877251, 32117765505027, 33217277132803, 34316788760579, 35416300388355, 36515812016131], [37615323643907, 38714835271683, 39814346899459, 40913858527235, 42013370155011, 43112881782787, 44212393410563, 45311905038339], [46411416666115, 47510928293891, 48610439921667, 49709951549443, 50809463177219, 51908974804995, 53008486432771, 54107998060547], [55207509688323, 56307021316099, 57406532943875, 58506044571651, 59605556199427, 236223266820, 60498909462530, 341969591205890]]
noncomputable def vd_657_3_7 : List (List Nat) := [[623440272949250, 904910954692610, 1186381636435970, 1467852318179330, 6833293033474, 236223266819, 1335734894595, 2435246522371], [3534758150147, 4634269777923, 5733781405699, 6833293033475, 7932804661251, 9032316289027, 10131827916803, 11231339544579], [12330851172355, 13430362800131, 14529874427907, 15629386055683, 16728897683459, 17828409311235, 18927920939011, 20027432566787], [21126944194563, 22226455822339, 23325967450115, 24425479077891, 25524990705667, 26624502333443, 27724013961219, 28823525588995], [29923037216771, 31022548844547, 32122060472323, 33221572100099, 34321083727875, 35420595355651, 36520106983427, 37619618611203], [38719130238979, 39818641866755, 40918153494531, 42017665122307, 43117176750083, 44216688377859, 45316200005635, 46415711633411], [47515223261187, 48614734888963, 49714246516739, 50813758144515, 51913269772291, 53012781400067, 54112293027843, 55211804655619], [56311316283395, 57410827911171, 58510339538947, 59609851166723, 60709362794499, 240518234116, 61598421090306, 343069102833666]]
noncomputable def vd_657_3 : List (List (List Nat)) := [vd_657_3_0, vd_657_3_1, vd_657_3_2, vd_657_3_3, vd_657_3_4, vd_657_3_5, vd_657_3_6, vd_657_3_7]
noncomputable def vd_657_4_0 : List (List Nat) := [[624539784577026, 906010466320386, 1187481148063746, 1468951829807106, 6837588000770, 240518234115, 1340029861891, 2439541489667], [3539053117443, 4638564745219, 5738076372995, 6837588000771, 7937099628547, 9036611256323, 10136122884099, 11235634511875], [12335146139651, 13434657767427, 14534169395203, 15633681022979, 16733192650755, 17832704278531, 18932215906307, 20031727534083], [21131239161859, 22230750789635, 23330262417411, 24429774045187, 25529285672963, 26628797300739, 27728308928515, 28827820556291], [29927332184067, 31026843811843, 32126355439619, 33225867067395, 34325378695171, 35424890322947, 36524401950723, 37623913578499], [38723425206275, 39822936834051, 40922448461827, 42021960089603, 43121471717379, 44220983345155, 45320494972931, 46420006600707], [47519518228483, 48619029856259, 49718541484035, 50818053111811, 51917564739587, 53017076367363, 54116587995139, 55216099622915], [56315611250691, 57415122878467, 58514634506243, 59614146134019, 60713657761795, 61813169389571, 244813201412, 62697932718082]]
noncomputable def vd_657_4_1 : List (List Nat) := [[344168614461442, 625639296204802, 907109977948162, 1188580659691522, 1470051341434882, 6841882968066, 244813201411, 1344324829187], [2443836456963, 3543348084739, 4642859712515, 5742371340291, 6841882968067, 7941394595843, 9040906223619, 10140417851395], [11239929479171, 12339441106947, 13438952734723, 14538464362499, 15637975990275, 16737487618051, 17836999245827, 18936510873603], [20036022501379, 21135534129155, 22235045756931, 23334557384707, 24434069012483, 25533580640259, 26633092268035, 27732603895811], [28832115523587, 29931627151363, 31031138779139, 32130650406915, 33230162034691, 34329673662467, 35429185290243, 36528696918019], [37628208545795, 38727720173571, 39827231801347, 40926743429123, 42026255056899, 43125766684675, 44225278312451, 45324789940227], [46424301568003, 47523813195779, 48623324823555, 49722836451331, 50822348079107, 51921859706883, 53021371334659, 54120882962435], [55220394590211, 56319906217987, 57419417845763, 58518929473539, 59618441101315, 60717952729091, 61817464356867, 62916975984643]]
noncomputable def vd_657_4_2 : List (List Nat) := [[249108168708, 63797444345858, 345268126089218, 626738807832578, 908209489575938, 1189680171319298, 1471150853062658, 6846177935362], [249108168707, 1348619796483, 2448131424259, 3547643052035, 4647154679811, 5746666307587, 6846177935363, 7945689563139], [9045201190915, 10144712818691, 11244224446467, 12343736074243, 13443247702019, 14542759329795, 15642270957571, 16741782585347], [17841294213123, 18940805840899, 20040317468675, 21139829096451, 22239340724227, 23338852352003, 24438363979779, 25537875607555], [26637387235331, 27736898863107, 28836410490883, 29935922118659, 31035433746435, 32134945374211, 33234457001987, 34333968629763], [35433480257539, 36532991885315, 37632503513091, 38732015140867, 39831526768643, 40931038396419, 42030550024195, 43130061651971], [44229573279747, 45329084907523, 46428596535299, 47528108163075, 48627619790851, 49727131418627, 50826643046403, 51926154674179], [53025666301955, 54125177929731, 55224689557507, 56324201185283, 57423712813059, 58523224440835, 59622736068611, 60722247696387]]
noncomputable def vd_657_4_3 : List (List Nat) := [[61821759324163, 62921270951939, 64020782579715, 253403136004, 64896955973634, 346367637716994, 627838319460354, 909309001203714], [1190779682947074, 1472250364690434, 6850472902658, 253403136003, 1352914763779, 2452426391555, 3551938019331, 4651449647107], [5750961274883, 6850472902659, 7949984530435, 9049496158211, 10149007785987, 11248519413763, 12348031041539, 13447542669315], [14547054297091, 15646565924867, 16746077552643, 17845589180419, 18945100808195, 20044612435971, 21144124063747, 22243635691523], [23343147319299, 24442658947075, 25542170574851, 26641682202627, 27741193830403, 28840705458179, 29940217085955, 31039728713731], [32139240341507, 33238751969283, 34338263597059, 35437775224835, 36537286852611, 37636798480387, 38736310108163, 39835821735939], [40935333363715, 42034844991491, 43134356619267, 44233868247043, 45333379874819, 46432891502595, 47532403130371, 48631914758147], [49731426385923, 50830938013699, 51930449641475, 53029961269251, 54129472897027, 55228984524803, 56328496152579, 57428007780355]]
noncomputable def vd_657_4_4 : List (List Nat) := [[58527519408131, 59627031035907, 60726542663683, 61826054291459, 62925565919235, 64025077547011, 65124589174787, 257698103300], [65996467601410, 347467149344770, 628937831088130, 910408512831490, 1191879194574850, 1473349876318210, 6854767869954, 257698103299], [1357209731075, 2456721358851, 3556232986627, 4655744614403, 5755256242179, 6854767869955, 7954279497731, 9053791125507], [10153302753283, 11252814381059, 12352326008835, 13451837636611, 14551349264387, 15650860892163, 16750372519939, 17849884147715], [18949395775491, 20048907403267, 21148419031043, 22247930658819, 23347442286595, 24446953914371, 25546465542147, 26645977169923], [27745488797699, 28845000425475, 29944512053251, 31044023681027, 32143535308803, 33243046936579, 34342558564355, 35442070192131], [36541581819907, 37641093447683, 38740605075459, 39840116703235, 40939628331011, 42039139958787, 43138651586563, 44238163214339], [45337674842115, 46437186469891, 47536698097667, 48636209725443, 49735721353219, 50835232980995, 51934744608771, 53034256236547]]
noncomputable def vd_657_4_5 : List (List Nat) := [[54133767864323, 55233279492099, 56332791119875, 57432302747651, 58531814375427, 59631326003203, 60730837630979, 61830349258755], [62929860886531, 64029372514307, 65128884142083, 66228395769859, 1023410180]]
noncomputable def vd_657_4 : List (List (List Nat)) := [vd_657_4_0, vd_657_4_1, vd_657_4_2, vd_657_4_3, vd_657_4_4, vd_657_4_5]
noncomputable def vd_657 : List (List (List (List Nat))) := [vd_657_0, vd_657_1, vd_657_2, vd_657_3, vd_657_4]
noncomputable def vt_657 : List (List am_I) := []
noncomputable def vc_657 : vm_C := (fun _ => vp_657, fun pc => [], [18, 40, 99], 2381, vm_inst 8 62 vt_657 vf_657 vd_657)
theorem vx_657_0 : vm_chk bt_200 [] vk_657 39 vc_657 0 7 = true := by decide +kernel
theorem vx_657_1 : vm_chk bt_200 [] vk_657 39 vc_657 7 8 = true := by decide +kernel
theorem vx_657_2 : vm_chk bt_200 [] vk_657 39 vc_657 15 8 = true := by decide +kernel
theorem vx_657_3 : vm_chk bt_200 [] vk_657 39 vc_657 23 7 = true := by decide +kernel
theorem vx_657_4 : vm_chk bt_200 [] vk_657 39 vc_657 30 7 = true := by decide +kernel
theorem vx_657_5 : vm_chk bt_200 [] vk_657 39 vc_657 37 8 = true := by decide +kernel
theorem vx_657_6 : vm_chk bt_200 [] vk_657 39 vc_657 45 7 = true := by decide +kernel
theorem vx_657_7 : vm_chk bt_200 [] vk_657 39 vc_657 52 7 = true := by decide +kernel
theorem vx_657_8 : vm_chk bt_200 [] vk_657 39 vc_657 59 7 = true := by decide +kernel
theorem vx_657_9 : vm_chk bt_200 [] vk_657 39 vc_657 66 7 = true := by decide +kernel
theorem vx_657_10 : vm_chk bt_200 [] vk_657 39 vc_657 73 7 = true := by decide +kernel
theorem vx_657_11 : vm_chk bt_200 [] vk_657 39 vc_657 80 8 = true := by decide +kernel
theorem vx_657_12 : vm_chk bt_200 [] vk_657 39 vc_657 88 7 = true := by decide +kernel
theorem vx_657_13 : vm_chk bt_200 [] vk_657 39 vc_657 95 8 = true := by decide +kernel
theorem vx_657_14 : vm_chk bt_200 [] vk_657 39 vc_657 103 7 = true := by decide +kernel
theorem vx_657_15 : vm_chk bt_200 [] vk_657 39 vc_657 110 7 = true := by decide +kernel
theorem vx_657_16 : vm_chk bt_200 [] vk_657 39 vc_657 117 7 = true := by decide +kernel
theorem vx_657_17 : vm_chk bt_200 [] vk_657 39 vc_657 124 7 = true := by decide +kernel
theorem vx_657_18 : vm_chk bt_200 [] vk_657 39 vc_657 131 8 = true := by decide +kernel
theorem vx_657_19 : vm_chk bt_200 [] vk_657 39 vc_657 139 7 = true := by decide +kernel
theorem vx_657_20 : vm_chk bt_200 [] vk_657 39 vc_657 146 7 = true := by decide +kernel
theorem vx_657_21 : vm_chk bt_200 [] vk_657 39 vc_657 153 7 = true := by decide +kernel
theorem vx_657_22 : vm_chk bt_200 [] vk_657 39 vc_657 160 7 = true := by decide +kernel
theorem vx_657_23 : vm_chk bt_200 [] vk_657 39 vc_657 167 7 = true := by decide +kernel
theorem vx_657_24 : vm_chk bt_200 [] vk_657 39 vc_657 174 7 = true := by decide +kernel
theorem vx_657_25 : vm_chk bt_200 [] vk_657 39 vc_657 181 7 = true := by decide +kernel
theorem vx_657_26 : vm_chk bt_200 [] vk_657 39 vc_657 188 7 = true := by decide +kernel
theorem vx_657_27 : vm_chk bt_200 [] vk_657 39 vc_657 195 7 = true := by decide +kernel
theorem vx_657_28 : vm_chk bt_200 [] vk_657 39 vc_657 202 7 = true := by decide +kernel
theorem vx_657_29 : vm_chk bt_200 [] vk_657 39 vc_657 209 7 = true := by decide +kernel
theorem vx_657_30 : vm_chk bt_200 [] vk_657 39 vc_657 216 7 = true := by decide +kernel
theorem vx_657_31 : vm_chk bt_200 [] vk_657 39 vc_657 223 7 = true := by decide +kernel
theorem vx_657_32 : vm_chk bt_200 [] vk_657 39 vc_657 230 7 = true := by decide +kernel
theorem vx_657_33 : vm_chk bt_200 [] vk_657 39 vc_657 237 7 = true := by decide +kernel
theorem vx_657_34 : vm_chk bt_200 [] vk_657 39 vc_657 244 7 = true := by decide +kernel
theorem vx_657_35 : vm_chk bt_200 [] vk_657 39 vc_657 251 7 = true := by decide +kernel
theorem vx_657_36 : vm_chk bt_200 [] vk_657 39 vc_657 258 7 = true := by decide +kernel
theorem vx_657_37 : vm_chk bt_200 [] vk_657 39 vc_657 265 6 = true := by decide +kernel
theorem vx_657_38 : vm_chk bt_200 [] vk_657 39 vc_657 271 7 = true := by decide +kernel
theorem vx_657_39 : vm_chk bt_200 [] vk_657 39 vc_657 278 7 = true := by decide +kernel
theorem vx_657_40 : vm_chk bt_200 [] vk_657 39 vc_657 285 8 = true := by decide +kernel
theorem vx_657_41 : vm_chk bt_200 [] vk_657 39 vc_657 293 7 = true := by decide +kernel
theorem vx_657_42 : vm_chk bt_200 [] vk_657 39 vc_657 300 7 = true := by decide +kernel
theorem vx_657_43 : vm_chk bt_200 [] vk_657 39 vc_657 307 7 = true := by decide +kernel
theorem vx_657_44 : vm_chk bt_200 [] vk_657 39 vc_657 314 7 = true := by decide +kernel
theorem vx_657_45 : vm_chk bt_200 [] vk_657 39 vc_657 321 7 = true := by decide +kernel
theorem vx_657_46 : vm_chk bt_200 [] vk_657 39 vc_657 328 7 = true := by decide +kernel
theorem vx_657_47 : vm_chk bt_200 [] vk_657 39 vc_657 335 7 = true := by decide +kernel
theorem vx_657_48 : vm_chk bt_200 [] vk_657 39 vc_657 342 7 = true := by decide +kernel
theorem vx_657_49 : vm_chk bt_200 [] vk_657 39 vc_657 349 7 = true := by decide +kernel
theorem vx_657_50 : vm_chk bt_200 [] vk_657 39 vc_657 356 7 = true := by decide +kernel
theorem vx_657_51 : vm_chk bt_200 [] vk_657 39 vc_657 363 7 = true := by decide +kernel
theorem vx_657_52 : vm_chk bt_200 [] vk_657 39 vc_657 370 7 = true := by decide +kernel
theorem vx_657_53 : vm_chk bt_200 [] vk_657 39 vc_657 377 7 = true := by decide +kernel
theorem vx_657_54 : vm_chk bt_200 [] vk_657 39 vc_657 384 7 = true := by decide +kernel
theorem vx_657_55 : vm_chk bt_200 [] vk_657 39 vc_657 391 7 = true := by decide +kernel
theorem vx_657_56 : vm_chk bt_200 [] vk_657 39 vc_657 398 7 = true := by decide +kernel
theorem vx_657_57 : vm_chk bt_200 [] vk_657 39 vc_657 405 7 = true := by decide +kernel
theorem vx_657_58 : vm_chk bt_200 [] vk_657 39 vc_657 412 7 = true := by decide +kernel
theorem vx_657_59 : vm_chk bt_200 [] vk_657 39 vc_657 419 7 = true := by decide +kernel
theorem vx_657_60 : vm_chk bt_200 [] vk_657 39 vc_657 426 7 = true := by decide +kernel
theorem vx_657_61 : vm_chk bt_200 [] vk_657 39 vc_657 433 7 = true := by decide +kernel
theorem vx_657_62 : vm_chk bt_200 [] vk_657 39 vc_657 440 7 = true := by decide +kernel
theorem vx_657_63 : vm_chk bt_200 [] vk_657 39 vc_657 447 7 = true := by decide +kernel
theorem vx_657_64 : vm_chk bt_200 [] vk_657 39 vc_657 454 7 = true := by decide +kernel
theorem vx_657_65 : vm_chk bt_200 [] vk_657 39 vc_657 461 6 = true := by decide +kernel
theorem vx_657_66 : vm_chk bt_200 [] vk_657 39 vc_657 467 7 = true := by decide +kernel
theorem vx_657_67 : vm_chk bt_200 [] vk_657 39 vc_657 474 7 = true := by decide +kernel
theorem vx_657_68 : vm_chk bt_200 [] vk_657 39 vc_657 481 7 = true := by decide +kernel
theorem vx_657_69 : vm_chk bt_200 [] vk_657 39 vc_657 488 8 = true := by decide +kernel
theorem vx_657_70 : vm_chk bt_200 [] vk_657 39 vc_657 496 7 = true := by decide +kernel
theorem vx_657_71 : vm_chk bt_200 [] vk_657 39 vc_657 503 7 = true := by decide +kernel
theorem vx_657_72 : vm_chk bt_200 [] vk_657 39 vc_657 510 7 = true := by decide +kernel
theorem vx_657_73 : vm_chk bt_200 [] vk_657 39 vc_657 517 7 = true := by decide +kernel
theorem vx_657_74 : vm_chk bt_200 [] vk_657 39 vc_657 524 7 = true := by decide +kernel
theorem vx_657_75 : vm_chk bt_200 [] vk_657 39 vc_657 531 7 = true := by decide +kernel
theorem vx_657_76 : vm_chk bt_200 [] vk_657 39 vc_657 538 7 = true := by decide +kernel
theorem vx_657_77 : vm_chk bt_200 [] vk_657 39 vc_657 545 7 = true := by decide +kernel
theorem vx_657_78 : vm_chk bt_200 [] vk_657 39 vc_657 552 7 = true := by decide +kernel
theorem vx_657_79 : vm_chk bt_200 [] vk_657 39 vc_657 559 7 = true := by decide +kernel
theorem vx_657_80 : vm_chk bt_200 [] vk_657 39 vc_657 566 7 = true := by decide +kernel
theorem vx_657_81 : vm_chk bt_200 [] vk_657 39 vc_657 573 7 = true := by decide +kernel
theorem vx_657_82 : vm_chk bt_200 [] vk_657 39 vc_657 580 7 = true := by decide +kernel
theorem vx_657_83 : vm_chk bt_200 [] vk_657 39 vc_657 587 7 = true := by decide +kernel
theorem vx_657_84 : vm_chk bt_200 [] vk_657 39 vc_657 594 7 = true := by decide +kernel
theorem vx_657_85 : vm_chk bt_200 [] vk_657 39 vc_657 601 7 = true := by decide +kernel
theorem vx_657_86 : vm_chk bt_200 [] vk_657 39 vc_657 608 7 = true := by decide +kernel
theorem vx_657_87 : vm_chk bt_200 [] vk_657 39 vc_657 615 7 = true := by decide +kernel
theorem vx_657_88 : vm_chk bt_200 [] vk_657 39 vc_657 622 7 = true := by decide +kernel
theorem vx_657_89 : vm_chk bt_200 [] vk_657 39 vc_657 629 7 = true := by decide +kernel
theorem vx_657_90 : vm_chk bt_200 [] vk_657 39 vc_657 636 7 = true := by decide +kernel
theorem vx_657_91 : vm_chk bt_200 [] vk_657 39 vc_657 643 7 = true := by decide +kernel
theorem vx_657_92 : vm_chk bt_200 [] vk_657 39 vc_657 650 7 = true := by decide +kernel
theorem vx_657_93 : vm_chk bt_200 [] vk_657 39 vc_657 657 7 = true := by decide +kernel
theorem vx_657_94 : vm_chk bt_200 [] vk_657 39 vc_657 664 7 = true := by decide +kernel
theorem vx_657_95 : vm_chk bt_200 [] vk_657 39 vc_657 671 7 = true := by decide +kernel
theorem vx_657_96 : vm_chk bt_200 [] vk_657 39 vc_657 678 7 = true := by decide +kernel
theorem vx_657_97 : vm_chk bt_200 [] vk_657 39 vc_657 685 7 = true := by decide +kernel
theorem vx_657_98 : vm_chk bt_200 [] vk_657 39 vc_657 692 7 = true := by decide +kernel
theorem vx_657_99 : vm_chk bt_200 [] vk_657 39 vc_657 699 7 = true := by decide +kernel
theorem vx_657_100 : vm_chk bt_200 [] vk_657 39 vc_657 706 6 = true := by decide +kernel
theorem vx_657_101 : vm_chk bt_200 [] vk_657 39 vc_657 712 7 = true := by decide +kernel
theorem vx_657_102 : vm_chk bt_200 [] vk_657 39 vc_657 719 7 = true := by decide +kernel
theorem vx_657_103 : vm_chk bt_200 [] vk_657 39 vc_657 726 7 = true := by decide +kernel
theorem vx_657_104 : vm_chk bt_200 [] vk_657 39 vc_657 733 7 = true := by decide +kernel
theorem vx_657_105 : vm_chk bt_200 [] vk_657 39 vc_657 740 8 = true := by decide +kernel
theorem vx_657_106 : vm_chk bt_200 [] vk_657 39 vc_657 748 7 = true := by decide +kernel
theorem vx_657_107 : vm_chk bt_200 [] vk_657 39 vc_657 755 7 = true := by decide +kernel
theorem vx_657_108 : vm_chk bt_200 [] vk_657 39 vc_657 762 7 = true := by decide +kernel
theorem vx_657_109 : vm_chk bt_200 [] vk_657 39 vc_657 769 7 = true := by decide +kernel
theorem vx_657_110 : vm_chk bt_200 [] vk_657 39 vc_657 776 7 = true := by decide +kernel
theorem vx_657_111 : vm_chk bt_200 [] vk_657 39 vc_657 783 7 = true := by decide +kernel
theorem vx_657_112 : vm_chk bt_200 [] vk_657 39 vc_657 790 7 = true := by decide +kernel
theorem vx_657_113 : vm_chk bt_200 [] vk_657 39 vc_657 797 7 = true := by decide +kernel
theorem vx_657_114 : vm_chk bt_200 [] vk_657 39 vc_657 804 7 = true := by decide +kernel
theorem vx_657_115 : vm_chk bt_200 [] vk_657 39 vc_657 811 7 = true := by decide +kernel
theorem vx_657_116 : vm_chk bt_200 [] vk_657 39 vc_657 818 7 = true := by decide +kernel
theorem vx_657_117 : vm_chk bt_200 [] vk_657 39 vc_657 825 7 = true := by decide +kernel
theorem vx_657_118 : vm_chk bt_200 [] vk_657 39 vc_657 832 7 = true := by decide +kernel
theorem vx_657_119 : vm_chk bt_200 [] vk_657 39 vc_657 839 7 = true := by decide +kernel
theorem vx_657_120 : vm_chk bt_200 [] vk_657 39 vc_657 846 7 = true := by decide +kernel
theorem vx_657_121 : vm_chk bt_200 [] vk_657 39 vc_657 853 7 = true := by decide +kernel
theorem vx_657_122 : vm_chk bt_200 [] vk_657 39 vc_657 860 7 = true := by decide +kernel
theorem vx_657_123 : vm_chk bt_200 [] vk_657 39 vc_657 867 7 = true := by decide +kernel
theorem vx_657_124 : vm_chk bt_200 [] vk_657 39 vc_657 874 7 = true := by decide +kernel
theorem vx_657_125 : vm_chk bt_200 [] vk_657 39 vc_657 881 7 = true := by decide +kernel
theorem vx_657_126 : vm_chk bt_200 [] vk_657 39 vc_657 888 7 = true := by decide +kernel
theorem vx_657_127 : vm_chk bt_200 [] vk_657 39 vc_657 895 7 = true := by decide +kernel
theorem vx_657_128 : vm_chk bt_200 [] vk_657 39 vc_657 902 7 = true := by decide +kernel
theorem vx_657_129 : vm_chk bt_200 [] vk_657 39 vc_657 909 7 = true := by decide +kernel
theorem vx_657_130 : vm_chk bt_200 [] vk_657 39 vc_657 916 7 = true := by decide +kernel
theorem vx_657_131 : vm_chk bt_200 [] vk_657 39 vc_657 923 7 = true := by decide +kernel
theorem vx_657_132 : vm_chk bt_200 [] vk_657 39 vc_657 930 7 = true := by decide +kernel
theorem vx_657_133 : vm_chk bt_200 [] vk_657 39 vc_657 937 7 = true := by decide +kernel
theorem vx_657_134 : vm_chk bt_200 [] vk_657 39 vc_657 944 7 = true := by decide +kernel
theorem vx_657_135 : vm_chk bt_200 [] vk_657 39 vc_657 951 7 = true := by decide +kernel
theorem vx_657_136 : vm_chk bt_200 [] vk_657 39 vc_657 958 7 = true := by decide +kernel
theorem vx_657_137 : vm_chk bt_200 [] vk_657 39 vc_657 965 7 = true := by decide +kernel
theorem vx_657_138 : vm_chk bt_200 [] vk_657 39 vc_657 972 7 = true := by decide +kernel
theorem vx_657_139 : vm_chk bt_200 [] vk_657 39 vc_657 979 7 = true := by decide +kernel
theorem vx_657_140 : vm_chk bt_200 [] vk_657 39 vc_657 986 7 = true := by decide +kernel
theorem vx_657_141 : vm_chk bt_200 [] vk_657 39 vc_657 993 7 = true := by decide +kernel
theorem vx_657_142 : vm_chk bt_200 [] vk_657 39 vc_657 1000 6 = true := by decide +kernel
theorem vx_657_143 : vm_chk bt_200 [] vk_657 39 vc_657 1006 7 = true := by decide +kernel
theorem vx_657_144 : vm_chk bt_200 [] vk_657 39 vc_657 1013 7 = true := by decide +kernel
theorem vx_657_145 : vm_chk bt_200 [] vk_657 39 vc_657 1020 7 = true := by decide +kernel
theorem vx_657_146 : vm_chk bt_200 [] vk_657 39 vc_657 1027 7 = true := by decide +kernel
theorem vx_657_147 : vm_chk bt_200 [] vk_657 39 vc_657 1034 7 = true := by decide +kernel
theorem vx_657_148 : vm_chk bt_200 [] vk_657 39 vc_657 1041 8 = true := by decide +kernel
theorem vx_657_149 : vm_chk bt_200 [] vk_657 39 vc_657 1049 7 = true := by decide +kernel
theorem vx_657_150 : vm_chk bt_200 [] vk_657 39 vc_657 1056 7 = true := by decide +kernel
theorem vx_657_151 : vm_chk bt_200 [] vk_657 39 vc_657 1063 7 = true := by decide +kernel
theorem vx_657_152 : vm_chk bt_200 [] vk_657 39 vc_657 1070 7 = true := by decide +kernel
theorem vx_657_153 : vm_chk bt_200 [] vk_657 39 vc_657 1077 7 = true := by decide +kernel
theorem vx_657_154 : vm_chk bt_200 [] vk_657 39 vc_657 1084 7 = true := by decide +kernel
theorem vx_657_155 : vm_chk bt_200 [] vk_657 39 vc_657 1091 7 = true := by decide +kernel
theorem vx_657_156 : vm_chk bt_200 [] vk_657 39 vc_657 1098 7 = true := by decide +kernel
theorem vx_657_157 : vm_chk bt_200 [] vk_657 39 vc_657 1105 7 = true := by decide +kernel
theorem vx_657_158 : vm_chk bt_200 [] vk_657 39 vc_657 1112 7 = true := by decide +kernel
theorem vx_657_159 : vm_chk bt_200 [] vk_657 39 vc_657 1119 7 = true := by decide +kernel
theorem vx_657_160 : vm_chk bt_200 [] vk_657 39 vc_657 1126 7 = true := by decide +kernel
theorem vx_657_161 : vm_chk bt_200 [] vk_657 39 vc_657 1133 7 = true := by decide +kernel
theorem vx_657_162 : vm_chk bt_200 [] vk_657 39 vc_657 1140 7 = true := by decide +kernel
theorem vx_657_163 : vm_chk bt_200 [] vk_657 39 vc_657 1147 7 = true := by decide +kernel
theorem vx_657_164 : vm_chk bt_200 [] vk_657 39 vc_657 1154 7 = true := by decide +kernel
theorem vx_657_165 : vm_chk bt_200 [] vk_657 39 vc_657 1161 7 = true := by decide +kernel
theorem vx_657_166 : vm_chk bt_200 [] vk_657 39 vc_657 1168 7 = true := by decide +kernel
theorem vx_657_167 : vm_chk bt_200 [] vk_657 39 vc_657 1175 7 = true := by decide +kernel
theorem vx_657_168 : vm_chk bt_200 [] vk_657 39 vc_657 1182 7 = true := by decide +kernel
theorem vx_657_169 : vm_chk bt_200 [] vk_657 39 vc_657 1189 7 = true := by decide +kernel
theorem vx_657_170 : vm_chk bt_200 [] vk_657 39 vc_657 1196 7 = true := by decide +kernel
theorem vx_657_171 : vm_chk bt_200 [] vk_657 39 vc_657 1203 7 = true := by decide +kernel
theorem vx_657_172 : vm_chk bt_200 [] vk_657 39 vc_657 1210 7 = true := by decide +kernel
theorem vx_657_173 : vm_chk bt_200 [] vk_657 39 vc_657 1217 7 = true := by decide +kernel
theorem vx_657_174 : vm_chk bt_200 [] vk_657 39 vc_657 1224 7 = true := by decide +kernel
theorem vx_657_175 : vm_chk bt_200 [] vk_657 39 vc_657 1231 7 = true := by decide +kernel
theorem vx_657_176 : vm_chk bt_200 [] vk_657 39 vc_657 1238 7 = true := by decide +kernel
theorem vx_657_177 : vm_chk bt_200 [] vk_657 39 vc_657 1245 7 = true := by decide +kernel
theorem vx_657_178 : vm_chk bt_200 [] vk_657 39 vc_657 1252 7 = true := by decide +kernel
theorem vx_657_179 : vm_chk bt_200 [] vk_657 39 vc_657 1259 7 = true := by decide +kernel
theorem vx_657_180 : vm_chk bt_200 [] vk_657 39 vc_657 1266 7 = true := by decide +kernel
theorem vx_657_181 : vm_chk bt_200 [] vk_657 39 vc_657 1273 7 = true := by decide +kernel
theorem vx_657_182 : vm_chk bt_200 [] vk_657 39 vc_657 1280 7 = true := by decide +kernel
theorem vx_657_183 : vm_chk bt_200 [] vk_657 39 vc_657 1287 7 = true := by decide +kernel
theorem vx_657_184 : vm_chk bt_200 [] vk_657 39 vc_657 1294 7 = true := by decide +kernel
theorem vx_657_185 : vm_chk bt_200 [] vk_657 39 vc_657 1301 7 = true := by decide +kernel
theorem vx_657_186 : vm_chk bt_200 [] vk_657 39 vc_657 1308 7 = true := by decide +kernel
theorem vx_657_187 : vm_chk bt_200 [] vk_657 39 vc_657 1315 7 = true := by decide +kernel
theorem vx_657_188 : vm_chk bt_200 [] vk_657 39 vc_657 1322 7 = true := by decide +kernel
theorem vx_657_189 : vm_chk bt_200 [] vk_657 39 vc_657 1329 7 = true := by decide +kernel
theorem vx_657_190 : vm_chk bt_200 [] vk_657 39 vc_657 1336 7 = true := by decide +kernel
theorem vx_657_191 : vm_chk bt_200 [] vk_657 39 vc_657 1343 6 = true := by decide +kernel
theorem vx_657_192 : vm_chk bt_200 [] vk_657 39 vc_657 1349 7 = true := by decide +kernel
theorem vx_657_193 : vm_chk bt_200 [] vk_657 39 vc_657 1356 7 = true := by decide +kernel
theorem vx_657_194 : vm_chk bt_200 [] vk_657 39 vc_657 1363 7 = true := by decide +kernel
theorem vx_657_195 : vm_chk bt_200 [] vk_657 39 vc_657 1370 7 = true := by decide +kernel
theorem vx_657_196 : vm_chk bt_200 [] vk_657 39 vc_657 1377 7 = true := by decide +kernel
theorem vx_657_197 : vm_chk bt_200 [] vk_657 39 vc_657 1384 7 = true := by decide +kernel
theorem vx_657_198 : vm_chk bt_200 [] vk_657 39 vc_657 1391 8 = true := by decide +kernel
theorem vx_657_199 : vm_chk bt_200 [] vk_657 39 vc_657 1399 7 = true := by decide +kernel
theorem vx_657_200 : vm_chk bt_200 [] vk_657 39 vc_657 1406 7 = true := by decide +kernel
theorem vx_657_201 : vm_chk bt_200 [] vk_657 39 vc_657 1413 7 = true := by decide +kernel
theorem vx_657_202 : vm_chk bt_200 [] vk_657 39 vc_657 1420 7 = true := by decide +kernel
theorem vx_657_203 : vm_chk bt_200 [] vk_657 39 vc_657 1427 7 = true := by decide +kernel
theorem vx_657_204 : vm_chk bt_200 [] vk_657 39 vc_657 1434 7 = true := by decide +kernel
theorem vx_657_205 : vm_chk bt_200 [] vk_657 39 vc_657 1441 7 = true := by decide +kernel
theorem vx_657_206 : vm_chk bt_200 [] vk_657 39 vc_657 1448 7 = true := by decide +kernel
theorem vx_657_207 : vm_chk bt_200 [] vk_657 39 vc_657 1455 7 = true := by decide +kernel
theorem vx_657_208 : vm_chk bt_200 [] vk_657 39 vc_657 1462 7 = true := by decide +kernel
theorem vx_657_209 : vm_chk bt_200 [] vk_657 39 vc_657 1469 7 = true := by decide +kernel
theorem vx_657_210 : vm_chk bt_200 [] vk_657 39 vc_657 1476 7 = true := by decide +kernel
theorem vx_657_211 : vm_chk bt_200 [] vk_657 39 vc_657 1483 7 = true := by decide +kernel
theorem vx_657_212 : vm_chk bt_200 [] vk_657 39 vc_657 1490 7 = true := by decide +kernel
theorem vx_657_213 : vm_chk bt_200 [] vk_657 39 vc_657 1497 7 = true := by decide +kernel
theorem vx_657_214 : vm_chk bt_200 [] vk_657 39 vc_657 1504 7 = true := by decide +kernel
theorem vx_657_215 : vm_chk bt_200 [] vk_657 39 vc_657 1511 7 = true := by decide +kernel
theorem vx_657_216 : vm_chk bt_200 [] vk_657 39 vc_657 1518 7 = true := by decide +kernel
theorem vx_657_217 : vm_chk bt_200 [] vk_657 39 vc_657 1525 7 = true := by decide +kernel
theorem vx_657_218 : vm_chk bt_200 [] vk_657 39 vc_657 1532 7 = true := by decide +kernel
theorem vx_657_219 : vm_chk bt_200 [] vk_657 39 vc_657 1539 7 = true := by decide +kernel
theorem vx_657_220 : vm_chk bt_200 [] vk_657 39 vc_657 1546 7 = true := by decide +kernel
theorem vx_657_221 : vm_chk bt_200 [] vk_657 39 vc_657 1553 7 = true := by decide +kernel
theorem vx_657_222 : vm_chk bt_200 [] vk_657 39 vc_657 1560 7 = true := by decide +kernel
theorem vx_657_223 : vm_chk bt_200 [] vk_657 39 vc_657 1567 7 = true := by decide +kernel
theorem vx_657_224 : vm_chk bt_200 [] vk_657 39 vc_657 1574 7 = true := by decide +kernel
theorem vx_657_225 : vm_chk bt_200 [] vk_657 39 vc_657 1581 7 = true := by decide +kernel
theorem vx_657_226 : vm_chk bt_200 [] vk_657 39 vc_657 1588 7 = true := by decide +kernel
theorem vx_657_227 : vm_chk bt_200 [] vk_657 39 vc_657 1595 7 = true := by decide +kernel
theorem vx_657_228 : vm_chk bt_200 [] vk_657 39 vc_657 1602 7 = true := by decide +kernel
theorem vx_657_229 : vm_chk bt_200 [] vk_657 39 vc_657 1609 7 = true := by decide +kernel
theorem vx_657_230 : vm_chk bt_200 [] vk_657 39 vc_657 1616 7 = true := by decide +kernel
theorem vx_657_231 : vm_chk bt_200 [] vk_657 39 vc_657 1623 7 = true := by decide +kernel
theorem vx_657_232 : vm_chk bt_200 [] vk_657 39 vc_657 1630 7 = true := by decide +kernel
theorem vx_657_233 : vm_chk bt_200 [] vk_657 39 vc_657 1637 7 = true := by decide +kernel
theorem vx_657_234 : vm_chk bt_200 [] vk_657 39 vc_657 1644 7 = true := by decide +kernel
theorem vx_657_235 : vm_chk bt_200 [] vk_657 39 vc_657 1651 7 = true := by decide +kernel
theorem vx_657_236 : vm_chk bt_200 [] vk_657 39 vc_657 1658 7 = true := by decide +kernel
theorem vx_657_237 : vm_chk bt_200 [] vk_657 39 vc_657 1665 7 = true := by decide +kernel
theorem vx_657_238 : vm_chk bt_200 [] vk_657 39 vc_657 1672 7 = true := by decide +kernel
theorem vx_657_239 : vm_chk bt_200 [] vk_657 39 vc_657 1679 7 = true := by decide +kernel
theorem vx_657_240 : vm_chk bt_200 [] vk_657 39 vc_657 1686 7 = true := by decide +kernel
theorem vx_657_241 : vm_chk bt_200 [] vk_657 39 vc_657 1693 7 = true := by decide +kernel
theorem vx_657_242 : vm_chk bt_200 [] vk_657 39 vc_657 1700 7 = true := by decide +kernel
theorem vx_657_243 : vm_chk bt_200 [] vk_657 39 vc_657 1707 7 = true := by decide +kernel
theorem vx_657_244 : vm_chk bt_200 [] vk_657 39 vc_657 1714 7 = true := by decide +kernel
theorem vx_657_245 : vm_chk bt_200 [] vk_657 39 vc_657 1721 7 = true := by decide +kernel
theorem vx_657_246 : vm_chk bt_200 [] vk_657 39 vc_657 1728 7 = true := by decide +kernel
theorem vx_657_247 : vm_chk bt_200 [] vk_657 39 vc_657 1735 6 = true := by decide +kernel
theorem vx_657_248 : vm_chk bt_200 [] vk_657 39 vc_657 1741 7 = true := by decide +kernel
theorem vx_657_249 : vm_chk bt_200 [] vk_657 39 vc_657 1748 7 = true := by decide +kernel
theorem vx_657_250 : vm_chk bt_200 [] vk_657 39 vc_657 1755 7 = true := by decide +kernel
theorem vx_657_251 : vm_chk bt_200 [] vk_657 39 vc_657 1762 7 = true := by decide +kernel
theorem vx_657_252 : vm_chk bt_200 [] vk_657 39 vc_657 1769 7 = true := by decide +kernel
theorem vx_657_253 : vm_chk bt_200 [] vk_657 39 vc_657 1776 7 = true := by decide +kernel
theorem vx_657_254 : vm_chk bt_200 [] vk_657 39 vc_657 1783 7 = true := by decide +kernel
theorem vx_657_255 : vm_chk bt_200 [] vk_657 39 vc_657 1790 8 = true := by decide +kernel
theorem vx_657_256 : vm_chk bt_200 [] vk_657 39 vc_657 1798 7 = true := by decide +kernel
theorem vx_657_257 : vm_chk bt_200 [] vk_657 39 vc_657 1805 7 = true := by decide +kernel
theorem vx_657_258 : vm_chk bt_200 [] vk_657 39 vc_657 1812 7 = true := by decide +kernel
theorem vx_657_259 : vm_chk bt_200 [] vk_657 39 vc_657 1819 7 = true := by decide +kernel
theorem vx_657_260 : vm_chk bt_200 [] vk_657 39 vc_657 1826 7 = true := by decide +kernel
theorem vx_657_261 : vm_chk bt_200 [] vk_657 39 vc_657 1833 7 = true := by decide +kernel
theorem vx_657_262 : vm_chk bt_200 [] vk_657 39 vc_657 1840 7 = true := by decide +kernel
theorem vx_657_263 : vm_chk bt_200 [] vk_657 39 vc_657 1847 7 = true := by decide +kernel
theorem vx_657_264 : vm_chk bt_200 [] vk_657 39 vc_657 1854 7 = true := by decide +kernel
theorem vx_657_265 : vm_chk bt_200 [] vk_657 39 vc_657 1861 7 = true := by decide +kernel
theorem vx_657_266 : vm_chk bt_200 [] vk_657 39 vc_657 1868 7 = true := by decide +kernel
theorem vx_657_267 : vm_chk bt_200 [] vk_657 39 vc_657 1875 7 = true := by decide +kernel
theorem vx_657_268 : vm_chk bt_200 [] vk_657 39 vc_657 1882 7 = true := by decide +kernel
theorem vx_657_269 : vm_chk bt_200 [] vk_657 39 vc_657 1889 7 = true := by decide +kernel
theorem vx_657_270 : vm_chk bt_200 [] vk_657 39 vc_657 1896 7 = true := by decide +kernel
theorem vx_657_271 : vm_chk bt_200 [] vk_657 39 vc_657 1903 7 = true := by decide +kernel
theorem vx_657_272 : vm_chk bt_200 [] vk_657 39 vc_657 1910 7 = true := by decide +kernel
theorem vx_657_273 : vm_chk bt_200 [] vk_657 39 vc_657 1917 7 = true := by decide +kernel
theorem vx_657_274 : vm_chk bt_200 [] vk_657 39 vc_657 1924 7 = true := by decide +kernel
theorem vx_657_275 : vm_chk bt_200 [] vk_657 39 vc_657 1931 7 = true := by decide +kernel
theorem vx_657_276 : vm_chk bt_200 [] vk_657 39 vc_657 1938 7 = true := by decide +kernel
theorem vx_657_277 : vm_chk bt_200 [] vk_657 39 vc_657 1945 7 = true := by decide +kernel
theorem vx_657_278 : vm_chk bt_200 [] vk_657 39 vc_657 1952 7 = true := by decide +kernel
theorem vx_657_279 : vm_chk bt_200 [] vk_657 39 vc_657 1959 7 = true := by decide +kernel
theorem vx_657_280 : vm_chk bt_200 [] vk_657 39 vc_657 1966 7 = true := by decide +kernel
theorem vx_657_281 : vm_chk bt_200 [] vk_657 39 vc_657 1973 7 = true := by decide +kernel
theorem vx_657_282 : vm_chk bt_200 [] vk_657 39 vc_657 1980 7 = true := by decide +kernel
theorem vx_657_283 : vm_chk bt_200 [] vk_657 39 vc_657 1987 7 = true := by decide +kernel
theorem vx_657_284 : vm_chk bt_200 [] vk_657 39 vc_657 1994 7 = true := by decide +kernel
theorem vx_657_285 : vm_chk bt_200 [] vk_657 39 vc_657 2001 7 = true := by decide +kernel
theorem vx_657_286 : vm_chk bt_200 [] vk_657 39 vc_657 2008 7 = true := by decide +kernel
theorem vx_657_287 : vm_chk bt_200 [] vk_657 39 vc_657 2015 7 = true := by decide +kernel
theorem vx_657_288 : vm_chk bt_200 [] vk_657 39 vc_657 2022 7 = true := by decide +kernel
theorem vx_657_289 : vm_chk bt_200 [] vk_657 39 vc_657 2029 7 = true := by decide +kernel
theorem vx_657_290 : vm_chk bt_200 [] vk_657 39 vc_657 2036 7 = true := by decide +kernel
theorem vx_657_291 : vm_chk bt_200 [] vk_657 39 vc_657 2043 7 = true := by decide +kernel
theorem vx_657_292 : vm_chk bt_200 [] vk_657 39 vc_657 2050 7 = true := by decide +kernel
theorem vx_657_293 : vm_chk bt_200 [] vk_657 39 vc_657 2057 7 = true := by decide +kernel
theorem vx_657_294 : vm_chk bt_200 [] vk_657 39 vc_657 2064 7 = true := by decide +kernel
theorem vx_657_295 : vm_chk bt_200 [] vk_657 39 vc_657 2071 7 = true := by decide +kernel
theorem vx_657_296 : vm_chk bt_200 [] vk_657 39 vc_657 2078 7 = true := by decide +kernel
theorem vx_657_297 : vm_chk bt_200 [] vk_657 39 vc_657 2085 7 = true := by decide +kernel
theorem vx_657_298 : vm_chk bt_200 [] vk_657 39 vc_657 2092 7 = true := by decide +kernel
theorem vx_657_299 : vm_chk bt_200 [] vk_657 39 vc_657 2099 7 = true := by decide +kernel
theorem vx_657_300 : vm_chk bt_200 [] vk_657 39 vc_657 2106 7 = true := by decide +kernel
theorem vx_657_301 : vm_chk bt_200 [] vk_657 39 vc_657 2113 7 = true := by decide +kernel
theorem vx_657_302 : vm_chk bt_200 [] vk_657 39 vc_657 2120 7 = true := by decide +kernel
theorem vx_657_303 : vm_chk bt_200 [] vk_657 39 vc_657 2127 7 = true := by decide +kernel
theorem vx_657_304 : vm_chk bt_200 [] vk_657 39 vc_657 2134 7 = true := by decide +kernel
theorem vx_657_305 : vm_chk bt_200 [] vk_657 39 vc_657 2141 7 = true := by decide +kernel
theorem vx_657_306 : vm_chk bt_200 [] vk_657 39 vc_657 2148 7 = true := by decide +kernel
theorem vx_657_307 : vm_chk bt_200 [] vk_657 39 vc_657 2155 7 = true := by decide +kernel
theorem vx_657_308 : vm_chk bt_200 [] vk_657 39 vc_657 2162 7 = true := by decide +kernel
theorem vx_657_309 : vm_chk bt_200 [] vk_657 39 vc_657 2169 7 = true := by decide +kernel
theorem vx_657_310 : vm_chk bt_200 [] vk_657 39 vc_657 2176 6 = true := by decide +kernel
theorem vx_657_311 : vm_chk bt_200 [] vk_657 39 vc_657 2182 7 = true := by decide +kernel
theorem vx_657_312 : vm_chk bt_200 [] vk_657 39 vc_657 2189 7 = true := by decide +kernel
theorem vx_657_313 : vm_chk bt_200 [] vk_657 39 vc_657 2196 7 = true := by decide +kernel
theorem vx_657_314 : vm_chk bt_200 [] vk_657 39 vc_657 2203 7 = true := by decide +kernel
theorem vx_657_315 : vm_chk bt_200 [] vk_657 39 vc_657 2210 7 = true := by decide +kernel
theorem vx_657_316 : vm_chk bt_200 [] vk_657 39 vc_657 2217 7 = true := by decide +kernel
theorem vx_657_317 : vm_chk bt_200 [] vk_657 39 vc_657 2224 7 = true := by decide +kernel
theorem vx_657_318 : vm_chk bt_200 [] vk_657 39 vc_657 2231 7 = true := by decide +kernel
theorem vx_657_319 : vm_chk bt_200 [] vk_657 39 vc_657 2238 8 = true := by decide +kernel
theorem vx_657_320 : vm_chk bt_200 [] vk_657 39 vc_657 2246 7 = true := by decide +kernel
theorem vx_657_321 : vm_chk bt_200 [] vk_657 39 vc_657 2253 7 = true := by decide +kernel
theorem vx_657_322 : vm_chk bt_200 [] vk_657 39 vc_657 2260 7 = true := by decide +kernel
theorem vx_657_323 : vm_chk bt_200 [] vk_657 39 vc_657 2267 7 = true := by decide +kernel
theorem vx_657_324 : vm_chk bt_200 [] vk_657 39 vc_657 2274 7 = true := by decide +kernel
theorem vx_657_325 : vm_chk bt_200 [] vk_657 39 vc_657 2281 7 = true := by decide +kernel
theorem vx_657_326 : vm_chk bt_200 [] vk_657 39 vc_657 2288 7 = true := by decide +kernel
theorem vx_657_327 : vm_chk bt_200 [] vk_657 39 vc_657 2295 7 = true := by decide +kernel
theorem vx_657_328 : vm_chk bt_200 [] vk_657 39 vc_657 2302 7 = true := by decide +kernel
theorem vx_657_329 : vm_chk bt_200 [] vk_657 39 vc_657 2309 7 = true := by decide +kernel
theorem vx_657_330 : vm_chk bt_200 [] vk_657 39 vc_657 2316 7 = true := by decide +kernel
theorem vx_657_331 : vm_chk bt_200 [] vk_657 39 vc_657 2323 7 = true := by decide +kernel
theorem vx_657_332 : vm_chk bt_200 [] vk_657 39 vc_657 2330 7 = true := by decide +kernel
theorem vx_657_333 : vm_chk bt_200 [] vk_657 39 vc_657 2337 7 = true := by decide +kernel
theorem vx_657_334 : vm_chk bt_200 [] vk_657 39 vc_657 2344 7 = true := by decide +kernel
theorem vx_657_335 : vm_chk bt_200 [] vk_657 39 vc_657 2351 7 = true := by decide +kernel
theorem vx_657_336 : vm_chk bt_200 [] vk_657 39 vc_657 2358 7 = true := by decide +kernel
theorem vx_657_337 : vm_chk bt_200 [] vk_657 39 vc_657 2365 7 = true := by decide +kernel
theorem vx_657_338 : vm_chk bt_200 [] vk_657 39 vc_657 2372 7 = true := by decide +kernel
theorem vx_657_339 : vm_chk bt_200 [] vk_657 39 vc_657 2379 2 = true := by decide +kernel
theorem vy_657 : vm_ents 200 39 vc_657 ve_657 = true := by decide +kernel
theorem vgr_657_0 (i : Nat) : i < 285 → ∃ lo k, lo ≤ i ∧ i < lo + k ∧ vm_chk bt_200 [] vk_657 39 vc_657 lo k = true := vm_hc vx_657_39 rfl (vm_hc vx_657_38 rfl (vm_hc vx_657_37 rfl (vm_hc vx_657_36 rfl (vm_hc vx_657_35 rfl (vm_hc vx_657_34 rfl (vm_hc vx_657_33 rfl (vm_hc vx_657_32 rfl (vm_hc vx_657_31 rfl (vm_hc vx_657_30 rfl (vm_hc vx_657_29 rfl (vm_hc vx_657_28 rfl (vm_hc vx_657_27 rfl (vm_hc vx_657_26 rfl (vm_hc vx_657_25 rfl (vm_hc vx_657_24 rfl (vm_hc vx_657_23 rfl (vm_hc vx_657_22 rfl (vm_hc vx_657_21 rfl (vm_hc vx_657_20 rfl (vm_hc vx_657_19 rfl (vm_hc vx_657_18 rfl (vm_hc vx_657_17 rfl (vm_hc vx_657_16 rfl (vm_hc vx_657_15 rfl (vm_hc vx_657_14 rfl (vm_hc vx_657_13 rfl (vm_hc vx_657_12 rfl (vm_hc vx_657_11 rfl (vm_hc vx_657_10 rfl (vm_hc vx_657_9 rfl (vm_hc vx_657_8 rfl (vm_hc vx_657_7 rfl (vm_hc vx_657_6 rfl (vm_hc vx_657_5 rfl (vm_hc vx_657_4 rfl (vm_hc vx_657_3 rfl (vm_hc vx_657_2 rfl (vm_hc vx_657_1 rfl (vm_hc vx_657_0 rfl (fun h => absurd h (Nat.not_lt_zero _)))))))))))))))))))))))))))))))))))))))))
theorem vgr_657_1 (i : Nat) : i < 566 → ∃ lo k, lo ≤ i ∧ i < lo + k ∧ vm_chk bt_200 [] vk_657 39 vc_657 lo k = true := vm_hc vx_657_79 rfl (vm_hc vx_657_78 rfl (vm_hc vx_657_77 rfl (vm_hc vx_657_76 rfl (vm_hc vx_657_75 rfl (vm_hc vx_657_74 rfl (vm_hc vx_657_73 rfl (vm_hc vx_657_72 rfl (vm_hc vx_657_71 rfl (vm_hc vx_657_70 rfl (vm_hc vx_657_69 rfl (vm_hc vx_657_68 rfl (vm_hc vx_657_67 rfl (vm_hc vx_657_66 rfl (vm_hc vx_657_65 rfl (vm_hc vx_657_64 rfl (vm_hc vx_657_63 rfl (vm_hc vx_657_62 rfl (vm_hc vx_657_61 rfl (vm_hc vx_657_60 rfl (vm_hc vx_657_59 rfl (vm_hc vx_657_58 rfl (vm_hc vx_657_57 rfl (vm_hc vx_657_56 rfl (vm_hc vx_657_55 rfl (vm_hc vx_657_54 rfl (vm_hc vx_657_53 rfl (vm_hc vx_657_52 rfl (vm_hc vx_657_51 rfl (vm_hc vx_657_50 rfl (vm_hc vx_657_49 rfl (vm_hc vx_657_48 rfl (vm_hc vx_657_47 rfl (vm_hc vx_657_46 rfl (vm_hc vx_657_45 rfl (vm_hc vx_657_44 rfl (vm_hc vx_657_43 rfl (vm_hc vx_657_42 rfl (vm_hc vx_657_41 rfl (vm_hc vx_657_40 rfl (vgr_657_0 i))))))))))))))))))))))))))))))))))))))))
theorem vgr_657_2 (i : Nat) : i < 846 → ∃ lo k, lo ≤ i ∧ i < lo + k ∧ vm_chk bt_200 [] vk_657 39 vc_657 lo k = true := vm_hc vx_657_119 rfl (vm_hc vx_657_118 rfl (vm_hc vx_657_117 rfl (vm_hc vx_657_116 rfl (vm_hc vx_657_115 rfl (vm_hc vx_657_114 rfl (vm_hc vx_657_113 rfl (vm_hc vx_657_112 rfl (vm_hc vx_657_111 rfl (vm_hc vx_657_110 rfl (vm_hc vx_657_109 rfl (vm_hc vx_657_108 rfl (vm_hc vx_657_107 rfl (vm_hc vx_657_106 rfl (vm_hc vx_657_105 rfl (vm_hc vx_657_104 rfl (vm_hc vx_657_103 rfl (vm_hc vx_657_102 rfl (vm_hc vx_657_101 rfl (vm_hc vx_657_100 rfl (vm_hc vx_657_99 rfl (vm_hc vx_657_98 rfl (vm_hc vx_657_97 rfl (vm_hc vx_657_96 rfl (vm_hc vx_657_95 rfl (vm_hc vx_657_94 rfl (vm_hc vx_657_93 rfl (vm_hc vx_657_92 rfl (vm_hc vx_657_91 rfl (vm_hc vx_657_90 rfl (vm_hc vx_657_89 rfl (vm_hc vx_657_88 rfl (vm_hc vx_657_87 rfl (vm_hc vx_657_86 rfl (vm_hc vx_657_85 rfl (vm_hc vx_657_84 rfl (vm_hc vx_657_83 rfl (vm_hc vx_657_82 rfl (vm_hc vx_657_81 rfl (vm_hc vx_657_80 rfl (vgr_657_1 i))))))))))))))))))))))))))))))))))))))))
theorem vgr_657_3 (i : Nat) : i < 1126 → ∃ lo k, lo ≤ i ∧ i < lo + k ∧ vm_chk bt_200 [] vk_657 39 vc_657 lo k = true := vm_hc vx_657_159 rfl (vm_hc vx_657_158 rfl (vm_hc vx_657_157 rfl (vm_hc vx_657_156 rfl (vm_hc vx_657_155 rfl (vm_hc vx_657_154 rfl (vm_hc vx_657_153 rfl (vm_hc vx_657_152 rfl (vm_hc vx_657_151 rfl (vm_hc vx_657_150 rfl (vm_hc vx_657_149 rfl (vm_hc vx_657_148 rfl (vm_hc vx_657_147 rfl (vm_hc vx_657_146 rfl (vm_hc vx_657_145 rfl (vm_hc vx_657_144 rfl (vm_hc vx_657_143 rfl (vm_hc vx_657_142 rfl (vm_hc vx_657_141 rfl (vm_hc vx_657_140 rfl (vm_hc vx_657_139 rfl (vm_hc vx_657_138 rfl (vm_hc vx_657_137 rfl (vm_hc vx_657_136 rfl (vm_hc vx_657_135 rfl (vm_hc vx_657_134 rfl (vm_hc vx_657_133 rfl (vm_hc vx_657_132 rfl (vm_hc vx_657_131 rfl (vm_hc vx_657_130 rfl (vm_hc vx_657_129 rfl (vm_hc vx_657_128 rfl (vm_hc vx_657_127 rfl (vm_hc vx_657_126 rfl (vm_hc vx_657_125 rfl (vm_hc vx_657_124 rfl (vm_hc vx_657_123 rfl (vm_hc vx_657_122 rfl (vm_hc vx_657_121 rfl (vm_hc vx_657_120 rfl (vgr_657_2 i))))))))))))))))))))))))))))))))))))))))
theorem vgr_657_4 (i : Nat) : i < 1406 → ∃ lo k, lo ≤ i ∧ i < lo + k ∧ vm_chk bt_200 [] vk_657 39 vc_657 lo k = true := vm_hc vx_657_199 rfl (vm_hc vx_657_198 rfl (vm_hc vx_657_197 rfl (vm_hc vx_657_196 rfl (vm_hc vx_657_195 rfl (vm_hc vx_657_194 rfl (vm_hc vx_657_193 rfl (vm_hc vx_657_192 rfl (vm_hc vx_657_191 rfl (vm_hc vx_657_190 rfl (vm_hc vx_657_189 rfl (vm_hc vx_657_188 rfl (vm_hc vx_657_187 rfl (vm_hc vx_657_186 rfl (vm_hc vx_657_185 rfl (vm_hc vx_657_184 rfl (vm_hc vx_657_183 rfl (vm_hc vx_657_182 rfl (vm_hc vx_657_181 rfl (vm_hc vx_657_180 rfl (vm_hc vx_657_179 rfl (vm_hc vx_657_178 rfl (vm_hc vx_657_177 rfl (vm_hc vx_657_176 rfl (vm_hc vx_657_175 rfl (vm_hc vx_657_174 rfl (vm_hc vx_657_173 rfl (vm_hc vx_657_172 rfl (vm_hc vx_657_171 rfl (vm_hc vx_657_170 rfl (vm_hc vx_657_169 rfl (vm_hc vx_657_168 rfl (vm_hc vx_657_167 rfl (vm_hc vx_657_166 rfl (vm_hc vx_657_165 rfl (vm_hc vx_657_164 rfl (vm_hc vx_657_163 rfl (vm_hc vx_657_162 rfl (vm_hc vx_657_161 rfl (vm_hc vx_657_160 rfl (vgr_657_3 i))))))))))))))))))))))))))))))))))))))))
theorem vgr_657_5 (i : Nat) : i < 1686 → ∃ lo k, lo ≤ i ∧ i < lo + k ∧ vm_chk bt_200 [] vk_657 39 vc_657 lo k = true := vm_hc vx_657_239 rfl (vm_hc vx_657_238 rfl (vm_hc vx_657_237 rfl (vm_hc vx_657_236 rfl (vm_hc vx_657_235 rfl (vm_hc vx_657_234 rfl (vm_hc vx_657_233 rfl (vm_hc vx_657_232 rfl (vm_hc vx_657_231 rfl (vm_hc vx_657_230 rfl (vm_hc vx_657_229 rfl (vm_hc vx_657_228 rfl (vm_hc vx_657_227 rfl (vm_hc vx_657_226 rfl (vm_hc vx_657_225 rfl (vm_hc vx_657_224 rfl (vm_hc vx_657_223 rfl (vm_hc vx_657_222 rfl (vm_hc vx_657_221 rfl (vm_hc vx_657_220 rfl (vm_hc vx_657_219 rfl (vm_hc vx_657_218 rfl (vm_hc vx_657_217 rfl (vm_hc vx_657_216 rfl (vm_hc vx_657_215 rfl (vm_hc vx_657_214 rfl (vm_hc vx_657_213 rfl (vm_hc vx_657_212 rfl (vm_hc vx_657_211 rfl (vm_hc vx_657_210 rfl (vm_hc vx_657_209 rfl (vm_hc vx_657_208 rfl (vm_hc vx_657_207 rfl (vm_hc vx_657_206 rfl (vm_hc vx_657_205 rfl (vm_hc vx_657_204 rfl (vm_hc vx_657_203 rfl (vm_hc vx_657_202 rfl (vm_hc vx_657_201 rfl (vm_hc vx_657_200 rfl (vgr_657_4 i))))))))))))))))))))))))))))))))))))))))
theorem vgr_657_6 (i : Nat) : i < 1966 → ∃ lo k, lo ≤ i ∧ i < lo + k ∧ vm_chk bt_200 [] vk_657 39 vc_657 lo k = true := vm_hc vx_657_279 rfl (vm_hc vx_657_278 rfl (vm_hc vx_657_277 rfl (vm_hc vx_657_276 rfl (vm_hc vx_657_275 rfl (vm_hc vx_657_274 rfl (vm_hc vx_657_273 rfl (vm_hc vx_657_272 rfl (vm_hc vx_657_271 rfl (vm_hc vx_657_270 rfl (vm_hc vx_657_269 rfl (vm_hc vx_657_268 rfl (vm_hc vx_657_267 rfl (vm_hc vx_657_266 rfl (vm_hc vx_657_265 rfl (vm_hc vx_657_264 rfl (vm_hc vx_657_263 rfl (vm_hc vx_657_262 rfl (vm_hc vx_657_261 rfl (vm_hc vx_657_260 rfl (vm_hc vx_657_259 rfl (vm_hc vx_657_258 rfl (vm_hc vx_657_257 rfl (vm_hc vx_657_256 rfl (vm_hc vx_657_255 rfl (vm_hc vx_657_254 rfl (vm_hc vx_657_253 rfl (vm_hc vx_657_252 rfl (vm_hc vx_657_251 rfl (vm_hc vx_657_250 rfl (vm_hc vx_657_249 rfl (vm_hc vx_657_248 rfl (vm_hc vx_657_247 rfl (vm_hc vx_657_246 rfl (vm_hc vx_657_245 rfl (vm_hc vx_657_244 rfl (vm_hc vx_657_243 rfl (vm_hc vx_657_242 rfl (vm_hc vx_657_241 rfl (vm_hc vx_657_240 rfl (vgr_657_5 i))))))))))))))))))))))))))))))))))))))))
theorem vgr_657_7 (i : Nat) : i < 2246 → ∃ lo k, lo ≤ i ∧ i < lo + k ∧ vm_chk bt_200 [] vk_657 39 vc_657 lo k = true := vm_hc vx_657_319 rfl (vm_hc vx_657_318 rfl (vm_hc vx_657_317 rfl (vm_hc vx_657_316 rfl (vm_hc vx_657_315 rfl (vm_hc vx_657_314 rfl (vm_hc vx_657_313 rfl (vm_hc vx_657_312 rfl (vm_hc vx_657_311 rfl (vm_hc vx_657_310 rfl (vm_hc vx_657_309 rfl (vm_hc vx_657_308 rfl (vm_hc vx_657_307 rfl (vm_hc vx_657_306 rfl (vm_hc vx_657_305 rfl (vm_hc vx_657_304 rfl (vm_hc vx_657_303 rfl (vm_hc vx_657_302 rfl (vm_hc vx_657_301 rfl (vm_hc vx_657_300 rfl (vm_hc vx_657_299 rfl (vm_hc vx_657_298 rfl (vm_hc vx_657_297 rfl (vm_hc vx_657_296 rfl (vm_hc vx_657_295 rfl (vm_hc vx_657_294 rfl (vm_hc vx_657_293 rfl (vm_hc vx_657_292 rfl (vm_hc vx_657_291 rfl (vm_hc vx_657_290 rfl (vm_hc vx_657_289 rfl (vm_hc vx_657_288 rfl (vm_hc vx_657_287 rfl (vm_hc vx_657_286 rfl (vm_hc vx_657_285 rfl (vm_hc vx_657_284 rfl (vm_hc vx_657_283 rfl (vm_hc vx_657_282 rfl (vm_hc vx_657_281 rfl (vm_hc vx_657_280 rfl (vgr_657_6 i))))))))))))))))))))))))))))))))))))))))
theorem vgr_657_8 (i : Nat) : i < 2381 → ∃ lo k, lo ≤ i ∧ i < lo + k ∧ vm_chk bt_200 [] vk_657 39 vc_657 lo k = true := vm_hc vx_657_339 rfl (vm_hc vx_657_338 rfl (vm_hc vx_657_337 rfl (vm_hc vx_657_336 rfl (vm_hc vx_657_335 rfl (vm_hc vx_657_334 rfl (vm_hc vx_657_333 rfl (vm_hc vx_657_332 rfl (vm_hc vx_657_331 rfl (vm_hc vx_657_330 rfl (vm_hc vx_657_329 rfl (vm_hc vx_657_328 rfl (vm_hc vx_657_327 rfl (vm_hc vx_657_326 rfl (vm_hc vx_657_325 rfl (vm_hc vx_657_324 rfl (vm_hc vx_657_323 rfl (vm_hc vx_657_322 rfl (vm_hc vx_657_321 rfl (vm_hc vx_657_320 rfl (vgr_657_7 i))))))))))))))))))))
theorem vw_657 : ∀ q ∈ vk_657, vm_wt 6 q := vm_wts (vm_kc (vm_up v_637 rfl) (vm_kc (vm_up v_482 rfl) (vm_kc (vm_up v_558 rfl) vm_kn))) (by decide +kernel)
theorem v_657 : vm_at 7 q_657 := vm_ok (inl := []) (es := ve_657) bq_200 (by decide) vw_657 vy_657 (fun i => vgr_657_8 i) _ List.mem_cons_self
noncomputable def vp_658 : List vm_R := [(some (.inl (.ofNat 0, .ofNat 0)), va_h0)]
noncomputable def ve_658 : List vm_E := [([.inr (.inl (.negSucc 2147483647, .negSucc 0)), .inr (.inl (.ofNat 0, .ofNat 0)), .inr (.inl (.ofNat 12, .ofNat 12))], va_h0, 0, [0])]
noncomputable def q_658 : vm_Q := (149, [.inr (.inl (.negSucc 2147483647, .negSucc 0)), .inr (.inl (.ofNat 0, .ofNat 0)), .inr (.inl (.ofNat 12, .ofNat 12))], va_h0, vp_658)
noncomputable def vk_658 : List vm_U := []
noncomputable def vf_658 : List ((Nat → am_I) → vm_A) := [fun v => (0, [(0, .inr (.inl (.negSucc 2147483647, .negSucc 0))), (2, .inr (.inl (.ofNat 0, .ofNat 0))), (4, .inr (.inl (.ofNat 12, .ofNat 12)))], [], (80, []))]
noncomputable def vd_658_0_0 : List (List Nat) := [[0]]
noncomputable def vd_658_0 : List (List (List Nat)) := [vd_658_0_0]
noncomputable def vd_658 : List (List (List (List Nat))) := [vd_658_0]
noncomputable def vt_658 : List (List am_I) := []
noncomputable def vc_658 : vm_C := (fun _ => vp_658, fun pc => [], [], 1, vm_inst 8 1 vt_658 vf_658 vd_658)
theorem vx_658_0 : vm_chk bt_149 [] vk_658 8 vc_658 0 1 = true := by decide +kernel
theorem vy_658 : vm_ents 149 8 vc_658 ve_658 = true := by decide +kernel
theorem vw_658 : ∀ q ∈ vk_658, vm_wt 1 q := vm_wts vm_kn (by decide +kernel)
theorem v_658 : vm_at 2 q_658 := vm_ok (inl := []) (es := ve_658) bq_149 (by decide) vw_658 vy_658 (fun i => vm_hc vx_658_0 rfl (fun h => absurd h (Nat.not_lt_zero _))) _ List.mem_cons_self
noncomputable def vp_659 : List vm_R := [(some (.inl (.ofNat 1, .ofNat 1)), va_h0)]
noncomputable def ve_659 : List vm_E := [([.inr (.inl (.ofNat 0, .ofNat 12)), .inr (.inl (.ofNat 0, .ofNat 0)), .inr (.inl (.ofNat 12, .ofNat 12))], va_h0, 0, [0])]
noncomputable def q_659 : vm_Q := (149, [.inr (.inl (.ofNat 0, .ofNat 12)), .inr (.inl (.ofNat 0, .ofNat 0)), .inr (.inl (.ofNat 12, .ofNat 12))], va_h0, vp_659)
noncomputable def vk_659 : List vm_U := []
noncomputable def vf_659 : List ((Nat → am_I) → vm_A) := [fun v => (0, [(0, .inr (.inl (.ofNat 0, .ofNat 12))), (2, .inr (.inl (.ofNat 0, .ofNat 0))), (4, .inr (.inl (.ofNat 12, .ofNat 12)))], [], (80, []))]
noncomputable def vd_659_0_0 : List (List Nat) := [[0]]
noncomputable def vd_659_0 : List (List (List Nat)) := [vd_659_0_0]
noncomputable def vd_659 : List (List (List (List Nat))) := [vd_659_0]
noncomputable def vt_659 : List (List am_I) := []
noncomputable def vc_659 : vm_C := (fun _ => vp_659, fun pc => [], [], 1, vm_inst 8 1 vt_659 vf_659 vd_659)
theorem vx_659_0 : vm_chk bt_149 [] vk_659 13 vc_659 0 1 = true := by decide +kernel
theorem vy_659 : vm_ents 149 13 vc_659 ve_659 = true := by decide +kernel
theorem vw_659 : ∀ q ∈ vk_659, vm_wt 1 q := vm_wts vm_kn (by decide +kernel)
theorem v_659 : vm_at 2 q_659 := vm_ok (inl := []) (es := ve_659) bq_149 (by decide) vw_659 vy_659 (fun i => vm_hc vx_659_0 rfl (fun h => absurd h (Nat.not_lt_zero _))) _ List.mem_cons_self
noncomputable def vp_660 : List vm_R := [(some (.inl (.ofNat 0, .ofNat 1)), va_h0)]
noncomputable def ve_660 : List vm_E := [([.inr (.inl am_top), .inr (.inl (.ofNat 0, .ofNat 0)), .inr (.inl (.negSucc 0, .ofNat 4))], va_h0, 0, [0])]
noncomputable def q_660 : vm_Q := (149, [.inr (.inl am_top), .inr (.inl (.ofNat 0, .ofNat 0)), .inr (.inl (.negSucc 0, .ofNat 4))], va_h0, vp_660)
noncomputable def vk_660 : List vm_U := []
noncomputable def vf_660 : List ((Nat → am_I) → vm_A) := [fun v => (0, [(0, .inr (.inl am_top)), (2, .inr (.inl (.ofNat 0, .ofNat 0))), (4, .inr (.inl (.negSucc 0, .ofNat 4)))], [], (80, []))]
noncomputable def vd_660_0_0 : List (List Nat) := [[0]]
noncomputable def vd_660_0 : List (List (List Nat)) := [vd_660_0_0]
noncomputable def vd_660 : List (List (List (List Nat))) := [vd_660_0]
noncomputable def vt_660 : List (List am_I) := []
noncomputable def vc_660 : vm_C := (fun _ => vp_660, fun pc => [], [], 1, vm_inst 8 1 vt_660 vf_660 vd_660)
theorem vx_660_0 : vm_chk bt_149 [] vk_660 13 vc_660 0 1 = true := by decide +kernel
theorem vy_660 : vm_ents 149 13 vc_660 ve_660 = true := by decide +kernel
theorem vw_660 : ∀ q ∈ vk_660, vm_wt 1 q := vm_wts vm_kn (by decide +kernel)
theorem v_660 : vm_at 2 q_660 := vm_ok (inl := []) (es := ve_660) bq_149 (by decide) vw_660 vy_660 (fun i => vm_hc vx_660_0 rfl (fun h => absurd h (Nat.not_lt_zero _))) _ List.mem_cons_self
noncomputable def vp_661 : List vm_R := [(some (.inl (.ofNat 0, .ofNat 1)), va_h0)]
noncomputable def ve_661 : List vm_E := [([.inr (.inr (some 70)), .inl am_top], va_h0, 0, [0])]
noncomputable def q_661 : vm_Q := (169, [.inr (.inr (some 70)), .inl am_top], va_h0, vp_661)
noncomputable def vk_661 : List vm_U := [(q_660, true, [])]
noncomputable def vf_661 : List ((Nat → am_I) → vm_A) := [fun v => (0, [(0, .inr (.inr (some 70))), (1, .inl am_top)], [], (80, []))]
noncomputable def vd_661_0_0 : List (List Nat) := [[0]]
noncomputable def vd_661_0 : List (List (List Nat)) := [vd_661_0_0]
noncomputable def vd_661 : List (List (List (List Nat))) := [vd_661_0]
noncomputable def vt_661 : List (List am_I) := []
noncomputable def vc_661 : vm_C := (fun _ => vp_661, fun pc => [], [], 1, vm_inst 8 1 vt_661 vf_661 vd_661)
theorem vx_661_0 : vm_chk bt_169 [] vk_661 12 vc_661 0 1 = true := by decide +kernel
theorem vy_661 : vm_ents 169 12 vc_661 ve_661 = true := by decide +kernel
theorem vw_661 : ∀ q ∈ vk_661, vm_wt 2 q := vm_wts (vm_kc (vm_up v_660 rfl) vm_kn) (by decide +kernel)
theorem v_661 : vm_at 3 q_661 := vm_ok (inl := []) (es := ve_661) bq_169 (by decide) vw_661 vy_661 (fun i => vm_hc vx_661_0 rfl (fun h => absurd h (Nat.not_lt_zero _))) _ List.mem_cons_self
noncomputable def vp_662 : List vm_R := [(some (.inl (.ofNat 0, .ofNat 0)), va_h0)]
noncomputable def ve_662 : List vm_E := [([.inr (.inl (.ofNat 13, .ofNat 2147483647)), .inr (.inl (.ofNat 0, .ofNat 0)), .inr (.inl (.ofNat 12, .ofNat 12))], va_h0, 0, [0])]
noncomputable def q_662 : vm_Q := (149, [.inr (.inl (.ofNat 13, .ofNat 2147483647)), .inr (.inl (.ofNat 0, .ofNat 0)), .inr (.inl (.ofNat 12, .ofNat 12))], va_h0, vp_662)
noncomputable def vk_662 : List vm_U := []
noncomputable def vf_662 : List ((Nat → am_I) → vm_A) := [fun v => (0, [(0, .inr (.inl (.ofNat 13, .ofNat 2147483647))), (2, .inr (.inl (.ofNat 0, .ofNat 0))), (4, .inr (.inl (.ofNat 12, .ofNat 12)))], [], (80, []))]
noncomputable def vd_662_0_0 : List (List Nat) := [[0]]
noncomputable def vd_662_0 : List (List (List Nat)) := [vd_662_0_0]
noncomputable def vd_662 : List (List (List (List Nat))) := [vd_662_0]
noncomputable def vt_662 : List (List am_I) := []
noncomputable def vc_662 : vm_C := (fun _ => vp_662, fun pc => [], [], 1, vm_inst 8 1 vt_662 vf_662 vd_662)
theorem vx_662_0 : vm_chk bt_149 [] vk_662 12 vc_662 0 1 = true := by decide +kernel
theorem vy_662 : vm_ents 149 12 vc_662 ve_662 = true := by decide +kernel
theorem vw_662 : ∀ q ∈ vk_662, vm_wt 1 q := vm_wts vm_kn (by decide +kernel)
theorem v_662 : vm_at 2 q_662 := vm_ok (inl := []) (es := ve_662) bq_149 (by decide) vw_662 vy_662 (fun i => vm_hc vx_662_0 rfl (fun h => absurd h (Nat.not_lt_zero _))) _ List.mem_cons_self
noncomputable def vp_663 : List vm_R := [(some (.inl (.ofNat 1, .ofNat 1024)), va_h0)]
noncomputable def ve_663 : List vm_E := [([.inl (.ofNat 0, .ofNat 5)], va_h0, 0, [0, 1, 2, 3, 4, 5])]
noncomputable def q_663 : vm_Q := (202, [.inl (.ofNat 0, .ofNat 5)], va_h0, vp_663)
noncomputable def vk_663 : List vm_U := []
noncomputable def vf_663 : List ((Nat → am_I) → vm_A) := [fun v => (0, [(0, .inl (v 0))], [], (80, []))]
noncomputable def vd_663_0_0 : List (List Nat) := [[83886080, 67108864, 50331648, 33554432, 16777216, 0]]
noncomputable def vd_663_0 : List (List (List Nat)) := [vd_663_0_0]
noncomputable def vd_663 : List (List (List (List Nat))) := [vd_663_0]
noncomputable def vt_663 : List (List am_I) := []
noncomputable def vc_663 : vm_C := (fun _ => vp_663, fun pc => (match Nat.beq pc 0 with
  | true => [(fun _ _ => some (.inl 0), fun _ _ => some [.ofNat 0, .ofNat 1, .ofNat 2, .ofNat 3, .ofNat 4, .ofNat 5, .ofNat 6])]
  | false => []), [], 6, vm_inst 8 6 vt_663 vf_663 vd_663)
theorem vx_663_0 : vm_chk bt_202 [] vk_663 8 vc_663 0 6 = true := by decide +kernel
theorem vy_663 : vm_ents 202 8 vc_663 ve_663 = true := by decide +kernel
theorem vw_663 : ∀ q ∈ vk_663, vm_wt 1 q := vm_wts vm_kn (by decide +kernel)
theorem v_663 : vm_at 2 q_663 := vm_ok (inl := []) (es := ve_663) bq_202 (by decide) vw_663 vy_663 (fun i => vm_hc vx_663_0 rfl (fun h => absurd h (Nat.not_lt_zero _))) _ List.mem_cons_self
