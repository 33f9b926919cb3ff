noncomputable def vp_665 : List vm_R := [(some (.inl am_top), va_h0)]
noncomputable def ve_665 : List vm_E := [([.inr (.inr (some 70))], va_h0, 0, [0])]
noncomputable def q_665 : vm_Q := (206, [.inr (.inr (some 70))], va_h0, vp_665)
noncomputable def vk_665 : List vm_U := [(q_521, true, []), (q_522, true, []), (q_482, false, []), (q_558, false, [(7, 62, 27)])]
noncomputable def vf_665 : List ((Nat → am_I) → vm_A) := [fun v => (0, [(0, .inr (.inr (some 70)))], [], (80, [])), fun v => (4, [(0, .inr (.inr (some 70))), (1, .inl (.ofNat 0, .ofNat 0)), (2, .inl (.ofNat 0, .ofNat 0))], [], (80, [])), fun v => (18, [(0, .inr (.inr (some 70))), (1, .inl (v 0)), (2, .inl (v 1)), (3, .inl (v 2))], [], (80, [])), fun v => (4, [(0, .inr (.inr (some 70))), (1, .inl (v 0)), (2, .inl (v 1)), (3, .inl am_top)], [], (80, []))]
noncomputable def vd_665_0_0 : List (List Nat) := [[65536, 65537, 17180000258, 72057606922960898, 144115196665921538, 216172786408882178, 1125899906908162, 1125281497091], [72345678969438210, 144403268712398850, 216460858455359490, 1127025188339714, 2229088092163, 144685843200737282, 216743432943697922, 1128128994934786], [3328599719939, 217024907920408578, 1129228506562562, 4428111347715, 1130328018190338, 21592276995]]
noncomputable def vd_665_0 : List (List (List Nat)) := [vd_665_0_0]
noncomputable def vd_665 : List (List (List (List Nat))) := [vd_665_0]
noncomputable def vt_665 : List (List am_I) := [[(.ofNat 0, .ofNat 1), am_top]]
noncomputable def vc_665 : vm_C := (fun _ => vp_665, fun pc => [], [4, 18], 22, vm_inst 8 6 vt_665 vf_665 vd_665)
theorem vx_665_0 : vm_chk bt_206 [] vk_665 41 vc_665 0 6 = true := by decide +kernel
theorem vx_665_1 : vm_chk bt_206 [] vk_665 41 vc_665 6 5 = true := by decide +kernel
theorem vx_665_2 : vm_chk bt_206 [] vk_665 41 vc_665 11 6 = true := by decide +kernel
theorem vx_665_3 : vm_chk bt_206 [] vk_665 41 vc_665 17 5 = true := by decide +kernel
theorem vy_665 : vm_ents 206 41 vc_665 ve_665 = true := by decide +kernel
theorem vw_665 : ∀ q ∈ vk_665, vm_wt 6 q := vm_wts (vm_kc (vm_up v_521 rfl) (vm_kc (vm_up v_522 rfl) (vm_kc (vm_up v_482 rfl) (vm_kc (vm_up v_558 rfl) vm_kn)))) (by decide +kernel)
theorem v_665 : vm_at 7 q_665 := vm_ok (inl := []) (es := ve_665) bq_206 (by decide) vw_665 vy_665 (fun i => vm_hc vx_665_3 rfl (vm_hc vx_665_2 rfl (vm_hc vx_665_1 rfl (vm_hc vx_665_0 rfl (fun h => absurd h (Nat.not_lt_zero _)))))) _ List.mem_cons_self
noncomputable def vp_666 : List vm_R := [(some (.inl (.negSucc 3, .ofNat 5)), va_h0)]
noncomputable def ve_666 : List vm_E := [([.inr (.inr (some 70)), .inl (.ofNat 0, .ofNat 0)], va_h0, 0, [0])]
noncomputable def q_666 : vm_Q := (173, [.inr (.inr (some 70)), .inl (.ofNat 0, .ofNat 0)], va_h0, vp_666)
noncomputable def vk_666 : List vm_U := []
noncomputable def vf_666 : List ((Nat → am_I) → vm_A) := [fun v => (0, [(0, .inr (.inr (some 70))), (1, .inl (.ofNat 0, .ofNat 0))], [], (80, [])), fun v => (5, [(0, .inr (.inr (some 70))), (1, .inl (.ofNat 0, .ofNat 0)), (2, .inl (v 0)), (3, .inl (v 1))], [], (80, []))]
noncomputable def vd_666_0_0 : List (List Nat) := [[65536, 30064836609, 1133871431681, 2237678026753, 3341484621825, 4445291216897, 5549097811969, 25987907585]]
noncomputable def vd_666_0 : List (List (List Nat)) := [vd_666_0_0]
noncomputable def vd_666 : List (List (List (List Nat))) := [vd_666_0]
noncomputable def vt_666 : List (List am_I) := [[(.negSucc 3, .negSucc 3), (.negSucc 3, .ofNat 0), (.negSucc 3, .ofNat 1), (.negSucc 3, .ofNat 2), (.negSucc 3, .ofNat 3), (.negSucc 3, .ofNat 4), (.negSucc 3, .ofNat 5)]]
noncomputable def vc_666 : vm_C := (fun _ => vp_666, fun pc => [], [5], 8, vm_inst 8 7 vt_666 vf_666 vd_666)
theorem vx_666_0 : vm_chk bt_173 [] vk_666 18 vc_666 0 8 = true := by decide +kernel
theorem vy_666 : vm_ents 173 18 vc_666 ve_666 = true := by decide +kernel
theorem vw_666 : ∀ q ∈ vk_666, vm_wt 1 q := vm_wts vm_kn (by decide +kernel)
theorem v_666 : vm_at 2 q_666 := vm_ok (inl := []) (es := ve_666) bq_173 (by decide) vw_666 vy_666 (fun i => vm_hc vx_666_0 rfl (fun h => absurd h (Nat.not_lt_zero _))) _ List.mem_cons_self
noncomputable def vp_667 : List vm_R := [(some (.inl (.ofNat 0, .ofNat 1)), va_h0)]
noncomputable def ve_667 : List vm_E := [([.inr (.inr (some 70)), .inl (.ofNat 0, .ofNat 0)], va_h0, 0, [0])]
noncomputable def q_667 : vm_Q := (177, [.inr (.inr (some 70)), .inl (.ofNat 0, .ofNat 0)], va_h0, vp_667)
noncomputable def vk_667 : List vm_U := []
noncomputable def vf_667 : List ((Nat → am_I) → vm_A) := [fun v => (0, [(0, .inr (.inr (some 70))), (1, .inl (.ofNat 0, .ofNat 0))], [], (80, []))]
noncomputable def vd_667_0_0 : List (List Nat) := [[0]]
noncomputable def vd_667_0 : List (List (List Nat)) := [vd_667_0_0]
noncomputable def vd_667 : List (List (List (List Nat))) := [vd_667_0]
noncomputable def vt_667 : List (List am_I) := []
noncomputable def vc_667 : vm_C := (fun _ => vp_667, fun pc => [], [], 1, vm_inst 8 1 vt_667 vf_667 vd_667)
theorem vx_667_0 : vm_chk bt_177 [] vk_667 17 vc_667 0 1 = true := by decide +kernel
theorem vy_667 : vm_ents 177 17 vc_667 ve_667 = true := by decide +kernel
theorem vw_667 : ∀ q ∈ vk_667, vm_wt 1 q := vm_wts vm_kn (by decide +kernel)
theorem v_667 : vm_at 2 q_667 := vm_ok (inl := []) (es := ve_667) bq_177 (by decide) vw_667 vy_667 (fun i => vm_hc vx_667_0 rfl (fun h => absurd h (Nat.not_lt_zero _))) _ List.mem_cons_self
noncomputable def vp_668 : List vm_R := [(some (.inl (.negSucc 3, .ofNat 5)), va_h0)]
noncomputable def ve_668 : List vm_E := [([.inr (.inr (some 70)), .inl (.ofNat 1, .ofNat 1)], va_h0, 0, [0])]
noncomputable def q_668 : vm_Q := (173, [.inr (.inr (some 70)), .inl (.ofNat 1, .ofNat 1)], va_h0, vp_668)
noncomputable def vk_668 : List vm_U := []
noncomputable def vf_668 : List ((Nat → am_I) → vm_A) := [fun v => (0, [(0, .inr (.inr (some 70))), (1, .inl (.ofNat 1, .ofNat 1))], [], (80, [])), fun v => (5, [(0, .inr (.inr (some 70))), (1, .inl (.ofNat 1, .ofNat 1)), (2, .inl (v 0)), (3, .inl (v 1))], [], (80, []))]
noncomputable def vd_668_0_0 : List (List Nat) := [[65536, 30064836609, 1133871431681, 2237678026753, 3341484621825, 4445291216897, 5549097811969, 25987907585]]
noncomputable def vd_668_0 : List (List (List Nat)) := [vd_668_0_0]
noncomputable def vd_668 : List (List (List (List Nat))) := [vd_668_0]
noncomputable def vt_668 : List (List am_I) := [[(.negSucc 3, .negSucc 3), (.negSucc 3, .ofNat 0), (.negSucc 3, .ofNat 1), (.negSucc 3, .ofNat 2), (.negSucc 3, .ofNat 3), (.negSucc 3, .ofNat 4), (.negSucc 3, .ofNat 5)]]
noncomputable def vc_668 : vm_C := (fun _ => vp_668, fun pc => [], [5], 8, vm_inst 8 7 vt_668 vf_668 vd_668)
theorem vx_668_0 : vm_chk bt_173 [] vk_668 18 vc_668 0 8 = true := by decide +kernel
theorem vy_668 : vm_ents 173 18 vc_668 ve_668 = true := by decide +kernel
theorem vw_668 : ∀ q ∈ vk_668, vm_wt 1 q := vm_wts vm_kn (by decide +kernel)
theorem v_668 : vm_at 2 q_668 := vm_ok (inl := []) (es := ve_668) bq_173 (by decide) vw_668 vy_668 (fun i => vm_hc vx_668_0 rfl (fun h => absurd h (Nat.not_lt_zero _))) _ List.mem_cons_self
noncomputable def vp_669 : List vm_R := [(some (.inl (.ofNat 0, .ofNat 1)), va_h0)]
noncomputable def ve_669 : List vm_E := [([.inr (.inr (some 70)), .inl (.ofNat 1, .ofNat 1)], va_h0, 0, [0])]
noncomputable def q_669 : vm_Q := (177, [.inr (.inr (some 70)), .inl (.ofNat 1, .ofNat 1)], va_h0, vp_669)
noncomputable def vk_669 : List vm_U := []
noncomputable def vf_669 : List ((Nat → am_I) → vm_A) := [fun v => (0, [(0, .inr (.inr (some 70))), (1, .inl (.ofNat 1, .ofNat 1))], [], (80, []))]
noncomputable def vd_669_0_0 : List (List Nat) := [[0]]
noncomputable def vd_669_0 : List (List (List Nat)) := [vd_669_0_0]
noncomputable def vd_669 : List (List (List (List Nat))) := [vd_669_0]
noncomputable def vt_669 : List (List am_I) := []
noncomputable def vc_669 : vm_C := (fun _ => vp_669, fun pc => [], [], 1, vm_inst 8 1 vt_669 vf_669 vd_669)
theorem vx_669_0 : vm_chk bt_177 [] vk_669 17 vc_669 0 1 = true := by decide +kernel
theorem vy_669 : vm_ents 177 17 vc_669 ve_669 = true := by decide +kernel
theorem vw_669 : ∀ q ∈ vk_669, vm_wt 1 q := vm_wts vm_kn (by decide +kernel)
theorem v_669 : vm_at 2 q_669 := vm_ok (inl := []) (es := ve_669) bq_177 (by decide) vw_669 vy_669 (fun i => vm_hc vx_669_0 rfl (fun h => absurd h (Nat.not_lt_zero _))) _ List.mem_cons_self
noncomputable def vp_670 : List vm_R := [(some (.inl (.negSucc 3, .ofNat 5)), va_h0)]
noncomputable def ve_670 : List vm_E := [([.inr (.inr (some 70)), .inl (.ofNat 2, .ofNat 2)], va_h0, 0, [0])]
noncomputable def q_670 : vm_Q := (173, [.inr (.inr (some 70)), .inl (.ofNat 2, .ofNat 2)], va_h0, vp_670)
noncomputable def vk_670 : List vm_U := []
noncomputable def vf_670 : List ((Nat → am_I) → vm_A) := [fun v => (0, [(0, .inr (.inr (some 70))), (1, .inl (.ofNat 2, .ofNat 2))], [], (80, [])), fun v => (5, [(0, .inr (.inr (some 70))), (1, .inl (.ofNat 2, .ofNat 2)), (2, .inl (v 0)), (3, .inl (v 1))], [], (80, []))]
noncomputable def vd_670_0_0 : List (List Nat) := [[65536, 30064836609, 1133871431681, 2237678026753, 3341484621825, 4445291216897, 5549097811969, 25987907585]]
noncomputable def vd_670_0 : List (List (List Nat)) := [vd_670_0_0]
noncomputable def vd_670 : List (List (List (List Nat))) := [vd_670_0]
noncomputable def vt_670 : List (List am_I) := [[(.negSucc 3, .negSucc 3), (.negSucc 3, .ofNat 0), (.negSucc 3, .ofNat 1), (.negSucc 3, .ofNat 2), (.negSucc 3, .ofNat 3), (.negSucc 3, .ofNat 4), (.negSucc 3, .ofNat 5)]]
noncomputable def vc_670 : vm_C := (fun _ => vp_670, fun pc => [], [5], 8, vm_inst 8 7 vt_670 vf_670 vd_670)
theorem vx_670_0 : vm_chk bt_173 [] vk_670 18 vc_670 0 8 = true := by decide +kernel
theorem vy_670 : vm_ents 173 18 vc_670 ve_670 = true := by decide +kernel
theorem vw_670 : ∀ q ∈ vk_670, vm_wt 1 q := vm_wts vm_kn (by decide +kernel)
theorem v_670 : vm_at 2 q_670 := vm_ok (inl := []) (es := ve_670) bq_173 (by decide) vw_670 vy_670 (fun i => vm_hc vx_670_0 rfl (fun h => absurd h (Nat.not_lt_zero _))) _ List.mem_cons_self
noncomputable def vp_671 : List vm_R := [(some (.inl (.ofNat 0, .ofNat 1)), va_h0)]
noncomputable def ve_671 : List vm_E := [([.inr (.inr (some 70)), .inl (.ofNat 2, .ofNat 2)], va_h0, 0, [0])]
noncomputable def q_671 : vm_Q := (177, [.inr (.inr (some 70)), .inl (.ofNat 2, .ofNat 2)], va_h0, vp_671)
noncomputable def vk_671 : List vm_U := []
noncomputable def vf_671 : List ((Nat → am_I) → vm_A) := [fun v => (0, [(0, .inr (.inr (some 70))), (1, .inl (.ofNat 2, .ofNat 2))], [], (80, []))]
noncomputable def vd_671_0_0 : List (List Nat) := [[0]]
noncomputable def vd_671_0 : List (List (List Nat)) := [vd_671_0_0]
noncomputable def vd_671 : List (List (List (List Nat))) := [vd_671_0]
noncomputable def vt_671 : List (List am_I) := []
noncomputable def vc_671 : vm_C := (fun _ => vp_671, fun pc => [], [], 1, vm_inst 8 1 vt_671 vf_671 vd_671)
theorem vx_671_0 : vm_chk bt_177 [] vk_671 17 vc_671 0 1 = true := by decide +kernel
theorem vy_671 : vm_ents 177 17 vc_671 ve_671 = true := by decide +kernel
theorem vw_671 : ∀ q ∈ vk_671, vm_wt 1 q := vm_wts vm_kn (by decide +kernel)
theorem v_671 : vm_at 2 q_671 := vm_ok (inl := []) (es := ve_671) bq_177 (by decide) vw_671 vy_671 (fun i => vm_hc vx_671_0 rfl (fun h => absurd h (Nat.not_lt_zero _))) _ List.mem_cons_self
noncomputable def vp_672 : List vm_R := [(some (.inl (.negSucc 3, .ofNat 5)), va_h0)]
noncomputable def ve_672 : List vm_E := [([.inr (.inr (some 70)), .inl (.ofNat 3, .ofNat 3)], va_h0, 0, [0])]
noncomputable def q_672 : vm_Q := (173, [.inr (.inr (some 70)), .inl (.ofNat 3, .ofNat 3)], va_h0, vp_672)
noncomputable def vk_672 : List vm_U := []
noncomputable def vf_672 : List ((Nat → am_I) → vm_A) := [fun v => (0, [(0, .inr (.inr (some 70))), (1, .inl (.ofNat 3, .ofNat 3))], [], (80, [])), fun v => (5, [(0, .inr (.inr (some 70))), (1, .inl (.ofNat 3, .ofNat 3)), (2, .inl (v 0)), (3, .inl (v 1))], [], (80, []))]
noncomputable def vd_672_0_0 : List (List Nat) := [[65536, 30064836609, 1133871431681, 2237678026753, 3341484621825, 4445291216897, 5549097811969, 25987907585]]
noncomputable def vd_672_0 : List (List (List Nat)) := [vd_672_0_0]
noncomputable def vd_672 : List (List (List (List Nat))) := [vd_672_0]
noncomputable def vt_672 : List (List am_I) := [[(.negSucc 3, .negSucc 3), (.negSucc 3, .ofNat 0), (.negSucc 3, .ofNat 1), (.negSucc 3, .ofNat 2), (.negSucc 3, .ofNat 3), (.negSucc 3, .ofNat 4), (.negSucc 3, .ofNat 5)]]
noncomputable def vc_672 : vm_C := (fun _ => vp_672, fun pc => [], [5], 8, vm_inst 8 7 vt_672 vf_672 vd_672)
theorem vx_672_0 : vm_chk bt_173 [] vk_672 18 vc_672 0 8 = true := by decide +kernel
theorem vy_672 : vm_ents 173 18 vc_672 ve_672 = true := by decide +kernel
theorem vw_672 : ∀ q ∈ vk_672, vm_wt 1 q := vm_wts vm_kn (by decide +kernel)
theorem v_672 : vm_at 2 q_672 := vm_ok (inl := []) (es := ve_672) bq_173 (by decide) vw_672 vy_672 (fun i => vm_hc vx_672_0 rfl (fun h => absurd h (Nat.not_lt_zero _))) _ List.mem_cons_self
noncomputable def vp_673 : List vm_R := [(some (.inl (.ofNat 0, .ofNat 1)), va_h0)]
noncomputable def ve_673 : List vm_E := [([.inr (.inr (some 70)), .inl (.ofNat 3, .ofNat 3)], va_h0, 0, [0])]
noncomputable def q_673 : vm_Q := (177, [.inr (.inr (some 70)), .inl (.ofNat 3, .ofNat 3)], va_h0, vp_673)
noncomputable def vk_673 : List vm_U := []
noncomputable def vf_673 : List ((Nat → am_I) → vm_A) := [fun v => (0, [(0, .inr (.inr (some 70))), (1, .inl (.ofNat 3, .ofNat 3))], [], (80, []))]
noncomputable def vd_673_0_0 : List (List Nat) := [[0]]
noncomputable def vd_673_0 : List (List (List Nat)) := [vd_673_0_0]
noncomputable def vd_673 : List (List (List (List Nat))) := [vd_673_0]
noncomputable def vt_673 : List (List am_I) := []
noncomputable def vc_673 : vm_C := (fun _ => vp_673, fun pc => [], [], 1, vm_inst 8 1 vt_673 vf_673 vd_673)
theorem vx_673_0 : vm_chk bt_177 [] vk_673 17 vc_673 0 1 = true := by decide +kernel
theorem vy_673 : vm_ents 177 17 vc_673 ve_673 = true := by decide +kernel
theorem vw_673 : ∀ q ∈ vk_673, vm_wt 1 q := vm_wts vm_kn (by decide +kernel)
theorem v_673 : vm_at 2 q_673 := vm_ok (inl := []) (es := ve_673) bq_177 (by decide) vw_673 vy_673 (fun i => vm_hc vx_673_0 rfl (fun h => absurd h (Nat.not_lt_zero _))) _ List.mem_cons_self
noncomputable def vp_674 : List vm_R := [(some (.inl (.negSucc 3, .ofNat 5)), va_h0)]
noncomputable def ve_674 : List vm_E := [([.inr (.inr (some 70)), .inl (.ofNat 4, .ofNat 4)], va_h0, 0, [0])]
noncomputable def q_674 : vm_Q := (173, [.inr (.inr (some 70)), .inl (.ofNat 4, .ofNat 4)], va_h0, vp_674)
noncomputable def vk_674 : List vm_U := []
noncomputable def vf_674 : List ((Nat → am_I) → vm_A) := [fun v => (0, [(0, .inr (.inr (some 70))), (1, .inl (.ofNat 4, .ofNat 4))], [], (80, [])), fun v => (5, [(0, .inr (.inr (some 70))), (1, .inl (.ofNat 4, .ofNat 4)), (2, .inl (v 0)), (3, .inl (v 1))], [], (80, []))]
noncomputable def vd_674_0_0 : List (List Nat) := [[65536, 30064836609, 1133871431681, 2237678026753, 3341484621825, 4445291216897, 5549097811969, 25987907585]]
noncomputable def vd_674_0 : List (List (List Nat)) := [vd_674_0_0]
noncomputable def vd_674 : List (List (List (List Nat))) := [vd_674_0]
noncomputable def vt_674 : List (List am_I) := [[(.negSucc 3, .negSucc 3), (.negSucc 3, .ofNat 0), (.negSucc 3, .ofNat 1), (.negSucc 3, .ofNat 2), (.negSucc 3, .ofNat 3), (.negSucc 3, .ofNat 4), (.negSucc 3, .ofNat 5)]]
noncomputable def vc_674 : vm_C := (fun _ => vp_674, fun pc => [], [5], 8, vm_inst 8 7 vt_674 vf_674 vd_674)
theorem vx_674_0 : vm_chk bt_173 [] vk_674 18 vc_674 0 8 = true := by decide +kernel
theorem vy_674 : vm_ents 173 18 vc_674 ve_674 = true := by decide +kernel
theorem vw_674 : ∀ q ∈ vk_674, vm_wt 1 q := vm_wts vm_kn (by decide +kernel)
theorem v_674 : vm_at 2 q_674 := vm_ok (inl := []) (es := ve_674) bq_173 (by decide) vw_674 vy_674 (fun i => vm_hc vx_674_0 rfl (fun h => absurd h (Nat.not_lt_zero _))) _ List.mem_cons_self
noncomputable def vp_675 : List vm_R := [(some (.inl (.ofNat 0, .ofNat 1)), va_h0)]
noncomputable def ve_675 : List vm_E := [([.inr (.inr (some 70)), .inl (.ofNat 4, .ofNat 4)], va_h0, 0, [0])]
noncomputable def q_675 : vm_Q := (177, [.inr (.inr (some 70)), .inl (.ofNat 4, .ofNat 4)], va_h0, vp_675)
noncomputable def vk_675 : List vm_U := []
noncomputable def vf_675 : List ((Nat → am_I) → vm_A) := [fun v => (0, [(0, .inr (.inr (some 70))), (1, .inl (.ofNat 4, .ofNat 4))], [], (80, []))]
noncomputable def vd_675_0_0 : List (List Nat) := [[0]]
noncomputable def vd_675_0 : List (List (List Nat)) := [vd_675_0_0]
noncomputable def vd_675 : List (List (List (List Nat))) := [vd_675_0]
noncomputable def vt_675 : List (List am_I) := []
noncomputable def vc_675 : vm_C := (fun _ => vp_675, fun pc => [], [], 1, vm_inst 8 1 vt_675 vf_675 vd_675)
theorem vx_675_0 : vm_chk bt_177 [] vk_675 17 vc_675 0 1 = true := by decide +kernel
theorem vy_675 : vm_ents 177 17 vc_675 ve_675 = true := by decide +kernel
theorem vw_675 : ∀ q ∈ vk_675, vm_wt 1 q := vm_wts vm_kn (by decide +kernel)
theorem v_675 : vm_at 2 q_675 := vm_ok (inl := []) (es := ve_675) bq_177 (by decide) vw_675 vy_675 (fun i => vm_hc vx_675_0 rfl (fun h => absurd h (Nat.not_lt_zero _))) _ List.mem_cons_self
noncomputable def vp_676 : List vm_R := [(some (.inl (.negSucc 3, .ofNat 5)), va_h0)]
noncomputable def ve_676 : List vm_E := [([.inr (.inr (some 70)), .inl (.ofNat 5, .ofNat 5)], va_h0, 0, [0])]
noncomputable def q_676 : vm_Q := (173, [.inr (.inr (some 70)), .inl (.ofNat 5, .ofNat 5)], va_h0, vp_676)
noncomputable def vk_676 : List vm_U := []
noncomputable def vf_676 : List ((Nat → am_I) → vm_A) := [fun v => (0, [(0, .inr (.inr (some 70))), (1, .inl (.ofNat 5, .ofNat 5))], [], (80, [])), fun v => (5, [(0, .inr (.inr (some 70))), (1, .inl (.ofNat 5, .ofNat 5)), (2, .inl (v 0)), (3, .inl (v 1))], [], (80, []))]
noncomputable def vd_676_0_0 : List (List Nat) := [[65536, 30064836609, 1133871431681, 2237678026753, 3341484621825, 4445291216897, 5549097811969, 25987907585]]
noncomputable def vd_676_0 : List (List (List Nat)) := [vd_676_0_0]
noncomputable def vd_676 : List (List (List (List Nat))) := [vd_676_0]
noncomputable def vt_676 : List (List am_I) := [[(.negSucc 3, .negSucc 3), (.negSucc 3, .ofNat 0), (.negSucc 3, .ofNat 1), (.negSucc 3, .ofNat 2), (.negSucc 3, .ofNat 3), (.negSucc 3, .ofNat 4), (.negSucc 3, .ofNat 5)]]
noncomputable def vc_676 : vm_C := (fun _ => vp_676, fun pc => [], [5], 8, vm_inst 8 7 vt_676 vf_676 vd_676)
theorem vx_676_0 : vm_chk bt_173 [] vk_676 18 vc_676 0 8 = true := by decide +kernel
theorem vy_676 : vm_ents 173 18 vc_676 ve_676 = true := by decide +kernel
theorem vw_676 : ∀ q ∈ vk_676, vm_wt 1 q := vm_wts vm_kn (by decide +kernel)
theorem v_676 : vm_at 2 q_676 := vm_ok (inl := []) (es := ve_676) bq_173 (by decide) vw_676 vy_676 (fun i => vm_hc vx_676_0 rfl (fun h => absurd h (Nat.not_lt_zero _))) _ List.mem_cons_self
noncomputable def vp_677 : List vm_R := [(some (.inl (.ofNat 0, .ofNat 1)), va_h0)]
noncomputable def ve_677 : List vm_E := [([.inr (.inr (some 70)), .inl (.ofNat 5, .ofNat 5)], va_h0, 0, [0])]
noncomputable def q_677 : vm_Q := (177, [.inr (.inr (some 70)), .inl (.ofNat 5, .ofNat 5)], va_h0, vp_677)
noncomputable def vk_677 : List vm_U := []
noncomputable def vf_677 : List ((Nat → am_I) → vm_A) := [fun v => (0, [(0, .inr (.inr (some 70))), (1, .inl (.ofNat 5, .ofNat 5))], [], (80, []))]
noncomputable def vd_677_0_0 : List (List Nat) := [[0]]
noncomputable def vd_677_0 : List (List (List Nat)) := [vd_677_0_0]
noncomputable def vd_677 : List (List (List (List Nat))) := [vd_677_0]
noncomputable def vt_677 : List (List am_I) := []
noncomputable def vc_677 : vm_C := (fun _ => vp_677, fun pc => [], [], 1, vm_inst 8 1 vt_677 vf_677 vd_677)
theorem vx_677_0 : vm_chk bt_177 [] vk_677 17 vc_677 0 1 = true := by decide +kernel
theorem vy_677 : vm_ents 177 17 vc_677 ve_677 = true := by decide +kernel
theorem vw_677 : ∀ q ∈ vk_677, vm_wt 1 q := vm_wts vm_kn (by decide +kernel)
theorem v_677 : vm_at 2 q_677 := vm_ok (inl := []) (es := ve_677) bq_177 (by decide) vw_677 vy_677 (fun i => vm_hc vx_677_0 rfl (fun h => absurd h (Nat.not_lt_zero _))) _ List.mem_cons_self
noncomputable def vp_678 : List vm_R := [(some (.inl (.negSucc 3, .ofNat 5)), va_h0)]
noncomputable def ve_678 : List vm_E := [([.inr (.inr (some 70)), .inl (.ofNat 6, .ofNat 6)], va_h0, 0, [0])]
noncomputable def q_678 : vm_Q := (173, [.inr (.inr (some 70)), .inl (.ofNat 6, .ofNat 6)], va_h0, vp_678)
noncomputable def vk_678 : List vm_U := []
noncomputable def vf_678 : List ((Nat → am_I) → vm_A) := [fun v => (0, [(0, .inr (.inr (some 70))), (1, .inl (.ofNat 6, .ofNat 6))], [], (80, [])), fun v => (5, [(0, .inr (.inr (some 70))), (1, .inl (.ofNat 6, .ofNat 6)), (2, .inl (v 0)), (3, .inl (v 1))], [], (80, []))]
noncomputable def vd_678_0_0 : List (List Nat) := [[65536, 30064836609, 1133871431681, 2237678026753, 3341484621825, 4445291216897, 5549097811969, 25987907585]]
noncomputable def vd_678_0 : List (List (List Nat)) := [vd_678_0_0]
noncomputable def vd_678 : List (List (List (List Nat))) := [vd_678_0]
noncomputable def vt_678 : List (List am_I) := [[(.negSucc 3, .negSucc 3), (.negSucc 3, .ofNat 0), (.negSucc 3, .ofNat 1), (.negSucc 3, .ofNat 2), (.negSucc 3, .ofNat 3), (.negSucc 3, .ofNat 4), (.negSucc 3, .ofNat 5)]]
noncomputable def vc_678 : vm_C := (fun _ => vp_678, fun pc => [], [5], 8, vm_inst 8 7 vt_678 vf_678 vd_678)
theorem vx_678_0 : vm_chk bt_173 [] vk_678 18 vc_678 0 8 = true := by decide +kernel
theorem vy_678 : vm_ents 173 18 vc_678 ve_678 = true := by decide +kernel
theorem vw_678 : ∀ q ∈ vk_678, vm_wt 1 q := vm_wts vm_kn (by decide +kernel)
theorem v_678 : vm_at 2 q_678 := vm_ok (inl := []) (es := ve_678) bq_173 (by decide) vw_678 vy_678 (fun i => vm_hc vx_678_0 rfl (fun h => absurd h (Nat.not_lt_zero _))) _ List.mem_cons_self
noncomputable def vp_679 : List vm_R := [(some (.inl (.ofNat 0, .ofNat 1)), va_h0)]
noncomputable def ve_679 : List vm_E := [([.inr (.inr (some 70)), .inl (.ofNat 6, .ofNat 6)], va_h0, 0, [0])]
noncomputable def q_679 : vm_Q := (177, [.inr (.inr (some 70)), .inl (.ofNat 6, .ofNat 6)], va_h0, vp_679)
noncomputable def vk_679 : List vm_U := []
noncomputable def vf_679 : List ((Nat → am_I) → vm_A) := [fun v => (0, [(0, .inr (.inr (some 70))), (1, .inl (.ofNat 6, .ofNat 6))], [], (80, []))]
noncomputable def vd_679_0_0 : List (List Nat) := [[0]]
noncomputable def vd_679_0 : List (List (List Nat)) := [vd_679_0_0]
noncomputable def vd_679 : List (List (List (List Nat))) := [vd_679_0]
noncomputable def vt_679 : List (List am_I) := []
noncomputable def vc_679 : vm_C := (fun _ => vp_679, fun pc => [], [], 1, vm_inst 8 1 vt_679 vf_679 vd_679)
theorem vx_679_0 : vm_chk bt_177 [] vk_679 17 vc_679 0 1 = true := by decide +kernel
theorem vy_679 : vm_ents 177 17 vc_679 ve_679 = true := by decide +kernel
theorem vw_679 : ∀ q ∈ vk_679, vm_wt 1 q := vm_wts vm_kn (by decide +kernel)
theorem v_679 : vm_at 2 q_679 := vm_ok (inl := []) (es := ve_679) bq_177 (by decide) vw_679 vy_679 (fun i => vm_hc vx_679_0 rfl (fun h => absurd h (Nat.not_lt_zero _))) _ List.mem_cons_self
noncomputable def vp_680 : List vm_R := [(some (.inl (.negSucc 3, .ofNat 5)), va_h0)]
noncomputable def ve_680 : List vm_E := [([.inr (.inr (some 70)), .inl (.ofNat 7, .ofNat 7)], va_h0, 0, [0])]
noncomputable def q_680 : vm_Q := (173, [.inr (.inr (some 70)), .inl (.ofNat 7, .ofNat 7)], va_h0, vp_680)
noncomputable def vk_680 : List vm_U := []
noncomputable def vf_680 : List ((Nat → am_I) → vm_A) := [fun v => (0, [(0, .inr (.inr (some 70))), (1, .inl (.ofNat 7, .ofNat 7))], [], (80, [])), fun v => (5, [(0, .inr (.inr (some 70))), (1, .inl (.ofNat 7, .ofNat 7)), (2, .inl (v 0)), (3, .inl (v 1))], [], (80, []))]
noncomputable def vd_680_0_0 : List (List Nat) := [[65536, 30064836609, 1133871431681, 2237678026753, 3341484621825, 4445291216897, 5549097811969, 25987907585]]
noncomputable def vd_680_0 : List (List (List Nat)) := [vd_680_0_0]
noncomputable def vd_680 : List (List (List (List Nat))) := [vd_680_0]
noncomputable def vt_680 : List (List am_I) := [[(.negSucc 3, .negSucc 3), (.negSucc 3, .ofNat 0), (.negSucc 3, .ofNat 1), (.negSucc 3, .ofNat 2), (.negSucc 3, .ofNat 3), (.negSucc 3, .ofNat 4), (.negSucc 3, .ofNat 5)]]
noncomputable def vc_680 : vm_C := (fun _ => vp_680, fun pc => [], [5], 8, vm_inst 8 7 vt_680 vf_680 vd_680)
theorem vx_680_0 : vm_chk bt_173 [] vk_680 18 vc_680 0 8 = true := by decide +kernel
theorem vy_680 : vm_ents 173 18 vc_680 ve_680 = true := by decide +kernel
theorem vw_680 : ∀ q ∈ vk_680, vm_wt 1 q := vm_wts vm_kn (by decide +kernel)
theorem v_680 : vm_at 2 q_680 := vm_ok (inl := []) (es := ve_680) bq_173 (by decide) vw_680 vy_680 (fun i => vm_hc vx_680_0 rfl (fun h => absurd h (Nat.not_lt_zero _))) _ List.mem_cons_self
noncomputable def vp_681 : List vm_R := [(some (.inl (.ofNat 0, .ofNat 1)), va_h0)]
noncomputable def ve_681 : List vm_E := [([.inr (.inr (some 70)), .inl (.ofNat 7, .ofNat 7)], va_h0, 0, [0])]
noncomputable def q_681 : vm_Q := (177, [.inr (.inr (some 70)), .inl (.ofNat 7, .ofNat 7)], va_h0, vp_681)
noncomputable def vk_681 : List vm_U := []
noncomputable def vf_681 : List ((Nat → am_I) → vm_A) := [fun v => (0, [(0, .inr (.inr (some 70))), (1, .inl (.ofNat 7, .ofNat 7))], [], (80, []))]
noncomputable def vd_681_0_0 : List (List Nat) := [[0]]
noncomputable def vd_681_0 : List (List (List Nat)) := [vd_681_0_0]
noncomputable def vd_681 : List (List (List (List Nat))) := [vd_681_0]
noncomputable def vt_681 : List (List am_I) := []
noncomputable def vc_681 : vm_C := (fun _ => vp_681, fun pc => [], [], 1, vm_inst 8 1 vt_681 vf_681 vd_681)
theorem vx_681_0 : vm_chk bt_177 [] vk_681 17 vc_681 0 1 = true := by decide +kernel
theorem vy_681 : vm_ents 177 17 vc_681 ve_681 = true := by decide +kernel
theorem vw_681 : ∀ q ∈ vk_681, vm_wt 1 q := vm_wts vm_kn (by decide +kernel)
theorem v_681 : vm_at 2 q_681 := vm_ok (inl := []) (es := ve_681) bq_177 (by decide) vw_681 vy_681 (fun i => vm_hc vx_681_0 rfl (fun h => absurd h (Nat.not_lt_zero _))) _ List.mem_cons_self
noncomputable def vp_682 : List vm_R := [(some (.inl (.negSucc 3, .ofNat 5)), va_h0)]
noncomputable def ve_682 : List vm_E := [([.inr (.inr (some 70)), .inl (.ofNat 8, .ofNat 8)], va_h0, 0, [0])]
noncomputable def q_682 : vm_Q := (173, [.inr (.inr (some 70)), .inl (.ofNat 8, .ofNat 8)], va_h0, vp_682)
noncomputable def vk_682 : List vm_U := []
noncomputable def vf_682 : List ((Nat → am_I) → vm_A) := [fun v => (0, [(0, .inr (.inr (some 70))), (1, .inl (.ofNat 8, .ofNat 8))], [], (80, [])), fun v => (5, [(0, .inr (.inr (some 70))), (1, .inl (.ofNat 8, .ofNat 8)), (2, .inl (v 0)), (3, .inl (v 1))], [], (80, []))]
noncomputable def vd_682_0_0 : List (List Nat) := [[65536, 30064836609, 1133871431681, 2237678026753, 3341484621825, 4445291216897, 5549097811969, 25987907585]]
noncomputable def vd_682_0 : List (List (List Nat)) := [vd_682_0_0]
noncomputable def vd_682 : List (List (List (List Nat))) := [vd_682_0]
noncomputable def vt_682 : List (List am_I) := [[(.negSucc 3, .negSucc 3), (.negSucc 3, .ofNat 0), (.negSucc 3, .ofNat 1), (.negSucc 3, .ofNat 2), (.negSucc 3, .ofNat 3), (.negSucc 3, .ofNat 4), (.negSucc 3, .ofNat 5)]]
noncomputable def vc_682 : vm_C := (fun _ => vp_682, fun pc => [], [5], 8, vm_inst 8 7 vt_682 vf_682 vd_682)
theorem vx_682_0 : vm_chk bt_173 [] vk_682 18 vc_682 0 8 = true := by decide +kernel
theorem vy_682 : vm_ents 173 18 vc_682 ve_682 = true := by decide +kernel
theorem vw_682 : ∀ q ∈ vk_682, vm_wt 1 q := vm_wts vm_kn (by decide +kernel)
theorem v_682 : vm_at 2 q_682 := vm_ok (inl := []) (es := ve_682) bq_173 (by decide) vw_682 vy_682 (fun i => vm_hc vx_682_0 rfl (fun h => absurd h (Nat.not_lt_zero _))) _ List.mem_cons_self
noncomputable def vp_683 : List vm_R := [(some (.inl (.ofNat 0, .ofNat 1)), va_h0)]
noncomputable def ve_683 : List vm_E := [([.inr (.inr (some 70)), .inl (.ofNat 8, .ofNat 8)], va_h0, 0, [0])]
noncomputable def q_683 : vm_Q := (177, [.inr (.inr (some 70)), .inl (.ofNat 8, .ofNat 8)], va_h0, vp_683)
noncomputable def vk_683 : List vm_U := []
noncomputable def vf_683 : List ((Nat → am_I) → vm_A) := [fun v => (0, [(0, .inr (.inr (some 70))), (1, .inl (.ofNat 8, .ofNat 8))], [], (80, []))]
noncomputable def vd_683_0_0 : List (List Nat) := [[0]]
noncomputable def vd_683_0 : List (List (List Nat)) := [vd_683_0_0]
noncomputable def vd_683 : List (List (List (List Nat))) := [vd_683_0]
noncomputable def vt_683 : List (List am_I) := []
noncomputable def vc_683 : vm_C := (fun _ => vp_683, fun pc => [], [], 1, vm_inst 8 1 vt_683 vf_683 vd_683)
theorem vx_683_0 : vm_chk bt_177 [] vk_683 17 vc_683 0 1 = true := by decide +kernel
theorem vy_683 : vm_ents 177 17 vc_683 ve_683 = true := by decide +kernel
theorem vw_683 : ∀ q ∈ vk_683, vm_wt 1 q := vm_wts vm_kn (by decide +kernel)
theorem v_683 : vm_at 2 q_683 := vm_ok (inl := []) (es := ve_683) bq_177 (by decide) vw_683 vy_683 (fun i => vm_hc vx_683_0 rfl (fun h => absurd h (Nat.not_lt_zero _))) _ List.mem_cons_self
noncomputable def vp_684 : List vm_R := [(some (.inl (.negSucc 3, .ofNat 5)), va_h0)]
noncomputable def ve_684 : List vm_E := [([.inr (.inr (some 70)), .inl (.ofNat 9, .ofNat 9)], va_h0, 0, [0])]
noncomputable def q_684 : vm_Q := (173, [.inr (.inr (some 70)), .inl (.ofNat 9, .ofNat 9)], va_h0, vp_684)
noncomputable def vk_684 : List vm_U := []
noncomputable def vf_684 : List ((Nat → am_I) → vm_A) := [fun v => (0, [(0, .inr (.inr (some 70))), (1, .inl (.ofNat 9, .ofNat 9))], [], (80, [])), fun v => (5, [(0, .inr (.inr (some 70))), (1, .inl (.ofNat 9, .ofNat 9)), (2, .inl (v 0)), (3, .inl (v 1))], [], (80, []))]
noncomputable def vd_684_0_0 : List (List Nat) := [[65536, 30064836609, 1133871431681, 2237678026753, 3341484621825, 4445291216897, 5549097811969, 25987907585]]
noncomputable def vd_684_0 : List (List (List Nat)) := [vd_684_0_0]
noncomputable def vd_684 : List (List (List (List Nat))) := [vd_684_0]
noncomputable def vt_684 : List (List am_I) := [[(.negSucc 3, .negSucc 3), (.negSucc 3, .ofNat 0), (.negSucc 3, .ofNat 1), (.negSucc 3, .ofNat 2), (.negSucc 3, .ofNat 3), (.negSucc 3, .ofNat 4), (.negSucc 3, .ofNat 5)]]
noncomputable def vc_684 : vm_C := (fun _ => vp_684, fun pc => [], [5], 8, vm_inst 8 7 vt_684 vf_684 vd_684)
theorem vx_684_0 : vm_chk bt_173 [] vk_684 18 vc_684 0 8 = true := by decide +kernel
theorem vy_684 : vm_ents 173 18 vc_684 ve_684 = true := by decide +kernel
theorem vw_684 : ∀ q ∈ vk_684, vm_wt 1 q := vm_wts vm_kn (by decide +kernel)
theorem v_684 : vm_at 2 q_684 := vm_ok (inl := []) (es := ve_684) bq_173 (by decide) vw_684 vy_684 (fun i => vm_hc vx_684_0 rfl (fun h => absurd h (Nat.not_lt_zero _))) _ List.mem_cons_self
noncomputable def vp_685 : List vm_R := [(some (.inl (.ofNat 0, .ofNat 1)), va_h0)]
noncomputable def ve_685 : List vm_E := [([.inr (.inr (some 70)), .inl (.ofNat 9, .ofNat 9)], va_h0, 0, [0])]
noncomputable def q_685 : vm_Q := (177, [.inr (.inr (some 70)), .inl (.ofNat 9, .ofNat 9)], va_h0, vp_685)
noncomputable def vk_685 : List vm_U := []
noncomputable def vf_685 : List ((Nat → am_I) → vm_A) := [fun v => (0, [(0, .inr (.inr (some 70))), (1, .inl (.ofNat 9, .ofNat 9))], [], (80, []))]
noncomputable def vd_685_0_0 : List (List Nat) := [[0]]
noncomputable def vd_685_0 : List (List (List Nat)) := [vd_685_0_0]
noncomputable def vd_685 : List (List (List (List Nat))) := [vd_685_0]
noncomputable def vt_685 : List (List am_I) := []
noncomputable def vc_685 : vm_C := (fun _ => vp_685, fun pc => [], [], 1, vm_inst 8 1 vt_685 vf_685 vd_685)
theorem vx_685_0 : vm_chk bt_177 [] vk_685 17 vc_685 0 1 = true := by decide +kernel
theorem vy_685 : vm_ents 177 17 vc_685 ve_685 = true := by decide +kernel
theorem vw_685 : ∀ q ∈ vk_685, vm_wt 1 q := vm_wts vm_kn (by decide +kernel)
theorem v_685 : vm_at 2 q_685 := vm_ok (inl := []) (es := ve_685) bq_177 (by decide) vw_685 vy_685 (fun i => vm_hc vx_685_0 rfl (fun h => absurd h (Nat.not_lt_zero _))) _ List.mem_cons_self
noncomputable def vp_686 : List vm_R := [(some (.inl (.negSucc 3, .ofNat 5)), va_h0)]
noncomputable def ve_686 : List vm_E := [([.inr (.inr (some 70)), .inl (.ofNat 10, .ofNat 10)], va_h0, 0, [0])]
noncomputable def q_686 : vm_Q := (173, [.inr (.inr (some 70)), .inl (.ofNat 10, .ofNat 10)], va_h0, vp_686)
noncomputable def vk_686 : List vm_U := []
noncomputable def vf_686 : List ((Nat → am_I) → vm_A) := [fun v => (0, [(0, .inr (.inr (some 70))), (1, .inl (.ofNat 10, .ofNat 10))], [], (80, [])), fun v => (5, [(0, .inr (.inr (some 70))), (1, .inl (.ofNat 10, .ofNat 10)), (2, .inl (v 0)), (3, .inl (v 1))], [], (80, []))]
noncomputable def vd_686_0_0 : List (List Nat) := [[65536, 30064836609, 1133871431681, 2237678026753, 3341484621825, 4445291216897, 5549097811969, 25987907585]]
noncomputable def vd_686_0 : List (List (List Nat)) := [vd_686_0_0]
noncomputable def vd_686 : List (List (List (List Nat))) := [vd_686_0]
noncomputable def vt_686 : List (List am_I) := [[(.negSucc 3, .negSucc 3), (.negSucc 3, .ofNat 0), (.negSucc 3, .ofNat 1), (.negSucc 3, .ofNat 2), (.negSucc 3, .ofNat 3), (.negSucc 3, .ofNat 4), (.negSucc 3, .ofNat 5)]]
noncomputable def vc_686 : vm_C := (fun _ => vp_686, fun pc => [], [5], 8, vm_inst 8 7 vt_686 vf_686 vd_686)
theorem vx_686_0 : vm_chk bt_173 [] vk_686 18 vc_686 0 8 = true := by decide +kernel
theorem vy_686 : vm_ents 173 18 vc_686 ve_686 = true := by decide +kernel
theorem vw_686 : ∀ q ∈ vk_686, vm_wt 1 q := vm_wts vm_kn (by decide +kernel)
theorem v_686 : vm_at 2 q_686 := vm_ok (inl := []) (es := ve_686) bq_173 (by decide) vw_686 vy_686 (fun i => vm_hc vx_686_0 rfl (fun h => absurd h (Nat.not_lt_zero _))) _ List.mem_cons_self
noncomputable def vp_687 : List vm_R := [(some (.inl (.ofNat 0, .ofNat 1)), va_h0)]
noncomputable def ve_687 : List vm_E := [([.inr (.inr (some 70)), .inl (.ofNat 10, .ofNat 10)], va_h0, 0, [0])]
noncomputable def q_687 : vm_Q := (177, [.inr (.inr (some 70)), .inl (.ofNat 10, .ofNat 10)], va_h0, vp_687)
noncomputable def vk_687 : List vm_U := []
noncomputable def vf_687 : List ((Nat → am_I) → vm_A) := [fun v => (0, [(0, .inr (.inr (some 70))), (1, .inl (.ofNat 10, .ofNat 10))], [], (80, []))]
noncomputable def vd_687_0_0 : List (List Nat) := [[0]]
noncomputable def vd_687_0 : List (List (List Nat)) := [vd_687_0_0]
noncomputable def vd_687 : List (List (List (List Nat))) := [vd_687_0]
noncomputable def vt_687 : List (List am_I) := []
noncomputable def vc_687 : vm_C := (fun _ => vp_687, fun pc => [], [], 1, vm_inst 8 1 vt_687 vf_687 vd_687)
theorem vx_687_0 : vm_chk bt_177 [] vk_687 17 vc_687 0 1 = true := by decide +kernel
theorem vy_687 : vm_ents 177 17 vc_687 ve_687 = true := by decide +kernel
theorem vw_687 : ∀ q ∈ vk_687, vm_wt 1 q := vm_wts vm_kn (by decide +kernel)
theorem v_687 : vm_at 2 q_687 := vm_ok (inl := []) (es := ve_687) bq_177 (by decide) vw_687 vy_687 (fun i => vm_hc vx_687_0 rfl (fun h => absurd h (Nat.not_lt_zero _))) _ List.mem_cons_self
noncomputable def vp_688 : List vm_R := [(some (.inl (.negSucc 3, .ofNat 5)), va_h0)]
noncomputable def ve_688 : List vm_E := [([.inr (.inr (some 70)), .inl (.ofNat 11, .ofNat 11)], va_h0, 0, [0])]
noncomputable def q_688 : vm_Q := (173, [.inr (.inr (some 70)), .inl (.ofNat 11, .ofNat 11)], va_h0, vp_688)
noncomputable def vk_688 : List vm_U := []
noncomputable def vf_688 : List ((Nat → am_I) → vm_A) := [fun v => (0, [(0, .inr (.inr (some 70))), (1, .inl (.ofNat 11, .ofNat 11))], [], (80, [])), fun v => (5, [(0, .inr (.inr (some 70))), (1, .inl (.ofNat 11, .ofNat 11)), (2, .inl (v 0)), (3, .inl (v 1))], [], (80, []))]
noncomputable def vd_688_0_0 : List (List Nat) := [[65536, 30064836609, 1133871431681, 2237678026753, 3341484621825, 4445291216897, 5549097811969, 25987907585]]
noncomputable def vd_688_0 : List (List (List Nat)) := [vd_688_0_0]
noncomputable def vd_688 : List (List (List (List Nat))) := [vd_688_0]
noncomputable def vt_688 : List (List am_I) := [[(.negSucc 3, .negSucc 3), (.negSucc 3, .ofNat 0), (.negSucc 3, .ofNat 1), (.negSucc 3, .ofNat 2), (.negSucc 3, .ofNat 3), (.negSucc 3, .ofNat 4), (.negSucc 3, .ofNat 5)]]
noncomputable def vc_688 : vm_C := (fun _ => vp_688, fun pc => [], [5], 8, vm_inst 8 7 vt_688 vf_688 vd_688)
theorem vx_688_0 : vm_chk bt_173 [] vk_688 18 vc_688 0 8 = true := by decide +kernel
theorem vy_688 : vm_ents 173 18 vc_688 ve_688 = true := by decide +kernel
theorem vw_688 : ∀ q ∈ vk_688, vm_wt 1 q := vm_wts vm_kn (by decide +kernel)
theorem v_688 : vm_at 2 q_688 := vm_ok (inl := []) (es := ve_688) bq_173 (by decide) vw_688 vy_688 (fun i => vm_hc vx_688_0 rfl (fun h => absurd h (Nat.not_lt_zero _))) _ List.mem_cons_self
noncomputable def vp_689 : List vm_R := [(some (.inl (.ofNat 0, .ofNat 1)), va_h0)]
noncomputable def ve_689 : List vm_E := [([.inr (.inr (some 70)), .inl (.ofNat 11, .ofNat 11)], va_h0, 0, [0])]
noncomputable def q_689 : vm_Q := (177, [.inr (.inr (some 70)), .inl (.ofNat 11, .ofNat 11)], va_h0, vp_689)
noncomputable def vk_689 : List vm_U := []
noncomputable def vf_689 : List ((Nat → am_I) → vm_A) := [fun v => (0, [(0, .inr (.inr (some 70))), (1, .inl (.ofNat 11, .ofNat 11))], [], (80, []))]
noncomputable def vd_689_0_0 : List (List Nat) := [[0]]
noncomputable def vd_689_0 : List (List (List Nat)) := [vd_689_0_0]
noncomputable def vd_689 : List (List (List (List Nat))) := [vd_689_0]
noncomputable def vt_689 : List (List am_I) := []
noncomputable def vc_689 : vm_C := (fun _ => vp_689, fun pc => [], [], 1, vm_inst 8 1 vt_689 vf_689 vd_689)
theorem vx_689_0 : vm_chk bt_177 [] vk_689 17 vc_689 0 1 = true := by decide +kernel
theorem vy_689 : vm_ents 177 17 vc_689 ve_689 = true := by decide +kernel
theorem vw_689 : ∀ q ∈ vk_689, vm_wt 1 q := vm_wts vm_kn (by decide +kernel)
theorem v_689 : vm_at 2 q_689 := vm_ok (inl := []) (es := ve_689) bq_177 (by decide) vw_689 vy_689 (fun i => vm_hc vx_689_0 rfl (fun h => absurd h (Nat.not_lt_zero _))) _ List.mem_cons_self
noncomputable def vp_690 : List vm_R := [(some (.inl (.negSucc 3, .ofNat 5)), va_h0)]
noncomputable def ve_690 : List vm_E := [([.inr (.inr (some 70)), .inl (.ofNat 12, .ofNat 12)], va_h0, 0, [0])]
noncomputable def q_690 : vm_Q := (173, [.inr (.inr (some 70)), .inl (.ofNat 12, .ofNat 12)], va_h0, vp_690)
noncomputable def vk_690 : List vm_U := []
noncomputable def vf_690 : List ((Nat → am_I) → vm_A) := [fun v => (0, [(0, .inr (.inr (some 70))), (1, .inl (.ofNat 12, .ofNat 12))], [], (80, [])), fun v => (5, [(0, .inr (.inr (some 70))), (1, .inl (.ofNat 12, .ofNat 12)), (2, .inl (v 0)), (3, .inl (v 1))], [], (80, []))]
noncomputable def vd_690_0_0 : List (List Nat) := [[65536, 30064836609, 1133871431681, 2237678026753, 3341484621825, 4445291216897, 5549097811969, 25987907585]]
noncomputable def vd_690_0 : List (List (List Nat)) := [vd_690_0_0]
noncomputable def vd_690 : List (List (List (List Nat))) := [vd_690_0]
noncomputable def vt_690 : List (List am_I) := [[(.negSucc 3, .negSucc 3), (.negSucc 3, .ofNat 0), (.negSucc 3, .ofNat 1), (.negSucc 3, .ofNat 2), (.negSucc 3, .ofNat 3), (.negSucc 3, .ofNat 4), (.negSucc 3, .ofNat 5)]]
noncomputable def vc_690 : vm_C := (fun _ => vp_690, fun pc => [], [5], 8, vm_inst 8 7 vt_690 vf_690 vd_690)
theorem vx_690_0 : vm_chk bt_173 [] vk_690 18 vc_690 0 8 = true := by decide +kernel
theorem vy_690 : vm_ents 173 18 vc_690 ve_690 = true := by decide +kernel
theorem vw_690 : ∀ q ∈ vk_690, vm_wt 1 q := vm_wts vm_kn (by decide +kernel)
theorem v_690 : vm_at 2 q_690 := vm_ok (inl := []) (es := ve_690) bq_173 (by decide) vw_690 vy_690 (fun i => vm_hc vx_690_0 rfl (fun h => absurd h (Nat.not_lt_zero _))) _ List.mem_cons_self
noncomputable def vp_691 : List vm_R := [(some (.inl (.ofNat 0, .ofNat 1)), va_h0)]
noncomputable def ve_691 : List vm_E := [([.inr (.inr (some 70)), .inl (.ofNat 12, .ofNat 12)], va_h0, 0, [0])]
noncomputable def q_691 : vm_Q := (177, [.inr (.inr (some 70)), .inl (.ofNat 12, .ofNat 12)], va_h0, vp_691)
noncomputable def vk_691 : List vm_U := []
noncomputable def vf_691 : List ((Nat → am_I) → vm_A) := [fun v => (0, [(0, .inr (.inr (some 70))), (1, .inl (.ofNat 12, .ofNat 12))], [], (80, []))]
noncomputable def vd_691_0_0 : List (List Nat) := [[0]]
noncomputable def vd_691_0 : List (List (List Nat)) := [vd_691_0_0]
noncomputable def vd_691 : List (List (List (List Nat))) := [vd_691_0]
noncomputable def vt_691 : List (List am_I) := []
noncomputable def vc_691 : vm_C := (fun _ => vp_691, fun pc => [], [], 1, vm_inst 8 1 vt_691 vf_691 vd_691)
theorem vx_691_0 : vm_chk bt_177 [] vk_691 17 vc_691 0 1 = true := by decide +kernel
theorem vy_691 : vm_ents 177 17 vc_691 ve_691 = true := by decide +kernel
theorem vw_691 : ∀ q ∈ vk_691, vm_wt 1 q := vm_wts vm_kn (by decide +kernel)
theorem v_691 : vm_at 2 q_691 := vm_ok (inl := []) (es := ve_691) bq_177 (by decide) vw_691 vy_691 (fun i => vm_hc vx_691_0 rfl (fun h => absurd h (Nat.not_lt_zero _))) _ List.mem_cons_self
noncomputable def vp_692 : List vm_R := [(some (.inl (.negSucc 3, .ofNat 5)), va_h0)]
noncomputable def ve_692 : List vm_E := [([.inr (.inr (some 70)), .inl (.ofNat 13, .ofNat 13)], va_h0, 0, [0])]
noncomputable def q_692 : vm_Q := (173, [.inr (.inr (some 70)), .inl (.ofNat 13, .ofNat 13)], va_h0, vp_692)
noncomputable def vk_692 : List vm_U := []
noncomputable def vf_692 : List ((Nat → am_I) → vm_A) := [fun v => (0, [(0, .inr (.inr (some 70))), (1, .inl (.ofNat 13, .ofNat 13))], [], (80, [])), fun v => (5, [(0, .inr (.inr (some 70))), (1, .inl (.ofNat 13, .ofNat 13)), (2, .inl (v 0)), (3, .inl (v 1))], [], (80, []))]
noncomputable def vd_692_0_0 : List (List Nat) := [[65536, 30064836609, 1133871431681, 2237678026753, 3341484621825, 4445291216897, 5549097811969, 25987907585]]
noncomputable def vd_692_0 : List (List (List Nat)) := [vd_692_0_0]
noncomputable def vd_692 : List (List (List (List Nat))) := [vd_692_0]
noncomputable def vt_692 : List (List am_I) := [[(.negSucc 3, .negSucc 3), (.negSucc 3, .ofNat 0), (.negSucc 3, .ofNat 1), (.negSucc 3, .ofNat 2), (.negSucc 3, .ofNat 3), (.negSucc 3, .ofNat 4), (.negSucc 3, .ofNat 5)]]
noncomputable def vc_692 : vm_C := (fun _ => vp_692, fun pc => [], [5], 8, vm_inst 8 7 vt_692 vf_692 vd_692)
theorem vx_692_0 : vm_chk bt_173 [] vk_692 18 vc_692 0 8 = true := by decide +kernel
theorem vy_692 : vm_ents 173 18 vc_692 ve_692 = true := by decide +kernel
theorem vw_692 : ∀ q ∈ vk_692, vm_wt 1 q := vm_wts vm_kn (by decide +kernel)
theorem v_692 : vm_at 2 q_692 := vm_ok (inl := []) (es := ve_692) bq_173 (by decide) vw_692 vy_692 (fun i => vm_hc vx_692_0 rfl (fun h => absurd h (Nat.not_lt_zero _))) _ List.mem_cons_self
noncomputable def vp_693 : List vm_R := [(some (.inl (.ofNat 0, .ofNat 1)), va_h0)]
noncomputable def ve_693 : List vm_E := [([.inr (.inr (some 70)), .inl (.ofNat 13, .ofNat 13)], va_h0, 0, [0])]
noncomputable def q_693 : vm_Q := (177, [.inr (.inr (some 70)), .inl (.ofNat 13, .ofNat 13)], va_h0, vp_693)
noncomputable def vk_693 : List vm_U := []
noncomputable def vf_693 : List ((Nat → am_I) → vm_A) := [fun v => (0, [(0, .inr (.inr (some 70))), (1, .inl (.ofNat 13, .ofNat 13))], [], (80, []))]
noncomputable def vd_693_0_0 : List (List Nat) := [[0]]
noncomputable def vd_693_0 : List (List (List Nat)) := [vd_693_0_0]
noncomputable def vd_693 : List (List (List (List Nat))) := [vd_693_0]
noncomputable def vt_693 : List (List am_I) := []
noncomputable def vc_693 : vm_C := (fun _ => vp_693, fun pc => [], [], 1, vm_inst 8 1 vt_693 vf_693 vd_693)
theorem vx_693_0 : vm_chk bt_177 [] vk_693 17 vc_693 0 1 = true := by decide +kernel
theorem vy_693 : vm_ents 177 17 vc_693 ve_693 = true := by decide +kernel
theorem vw_693 : ∀ q ∈ vk_693, vm_wt 1 q := vm_wts vm_kn (by decide +kernel)
theorem v_693 : vm_at 2 q_693 := vm_ok (inl := []) (es := ve_693) bq_177 (by decide) vw_693 vy_693 (fun i => vm_hc vx_693_0 rfl (fun h => absurd h (Nat.not_lt_zero _))) _ List.mem_cons_self
noncomputable def vp_694 : List vm_R := [(some (.inl (.negSucc 3, .ofNat 5)), va_h0)]
noncomputable def ve_694 : List vm_E := [([.inr (.inr (some 70)), .inl (.ofNat 14, .ofNat 14)], va_h0, 0, [0])]
noncomputable def q_694 : vm_Q := (173, [.inr (.inr (some 70)), .inl (.ofNat 14, .ofNat 14)], va_h0, vp_694)
noncomputable def vk_694 : List vm_U := []
noncomputable def vf_694 : List ((Nat → am_I) → vm_A) := [fun v => (0, [(0, .inr (.inr (some 70))), (1, .inl (.ofNat 14, .ofNat 14))], [], (80, [])), fun v => (5, [(0, .inr (.inr (some 70))), (1, .inl (.ofNat 14, .ofNat 14)), (2, .inl (v 0)), (3, .inl (v 1))], [], (80, []))]
noncomputable def vd_694_0_0 : List (List Nat) := [[65536, 30064836609, 1133871431681, 2237678026753, 3341484621825, 4445291216897, 5549097811969, 25987907585]]
noncomputable def vd_694_0 : List (List (List Nat)) := [vd_694_0_0]
noncomputable def vd_694 : List (List (List (List Nat))) := [vd_694_0]
noncomputable def vt_694 : List (List am_I) := [[(.negSucc 3, .negSucc 3), (.negSucc 3, .ofNat 0), (.negSucc 3, .ofNat 1), (.negSucc 3, .ofNat 2), (.negSucc 3, .ofNat 3), (.negSucc 3, .ofNat 4), (.negSucc 3, .ofNat 5)]]
noncomputable def vc_694 : vm_C := (fun _ => vp_694, fun pc => [], [5], 8, vm_inst 8 7 vt_694 vf_694 vd_694)
theorem vx_694_0 : vm_chk bt_173 [] vk_694 18 vc_694 0 8 = true := by decide +kernel
theorem vy_694 : vm_ents 173 18 vc_694 ve_694 = true := by decide +kernel
theorem vw_694 : ∀ q ∈ vk_694, vm_wt 1 q := vm_wts vm_kn (by decide +kernel)
theorem v_694 : vm_at 2 q_694 := vm_ok (inl := []) (es := ve_694) bq_173 (by decide) vw_694 vy_694 (fun i => vm_hc vx_694_0 rfl (fun h => absurd h (Nat.not_lt_zero _))) _ List.mem_cons_self
noncomputable def vp_695 : List vm_R := [(some (.inl (.ofNat 0, .ofNat 1)), va_h0)]
noncomputable def ve_695 : List vm_E := [([.inr (.inr (some 70)), .inl (.ofNat 14, .ofNat 14)], va_h0, 0, [0])]
noncomputable def q_695 : vm_Q := (177, [.inr (.inr (some 70)), .inl (.ofNat 14, .ofNat 14)], va_h0, vp_695)
noncomputable def vk_695 : List vm_U := []
noncomputable def vf_695 : List ((Nat → am_I) → vm_A) := [fun v => (0, [(0, .inr (.inr (some 70))), (1, .inl (.ofNat 14, .ofNat 14))], [], (80, []))]
noncomputable def vd_695_0_0 : List (List Nat) := [[0]]
noncomputable def vd_695_0 : List (List (List Nat)) := [vd_695_0_0]
noncomputable def vd_695 : List (List (List (List Nat))) := [vd_695_0]
noncomputable def vt_695 : List (List am_I) := []
noncomputable def vc_695 : vm_C := (fun _ => vp_695, fun pc => [], [], 1, vm_inst 8 1 vt_695 vf_695 vd_695)
theorem vx_695_0 : vm_chk bt_177 [] vk_695 17 vc_695 0 1 = true := by decide +kernel
theorem vy_695 : vm_ents 177 17 vc_695 ve_695 = true := by decide +kernel
theorem vw_695 : ∀ q ∈ vk_695, vm_wt 1 q := vm_wts vm_kn (by decide +kernel)
theorem v_695 : vm_at 2 q_695 := vm_ok (inl := []) (es := ve_695) bq_177 (by decide) vw_695 vy_695 (fun i => vm_hc vx_695_0 rfl (fun h => absurd h (Nat.not_lt_zero _))) _ List.mem_cons_self
noncomputable def vp_696 : List vm_R := [(some (.inl (.negSucc 3, .ofNat 5)), va_h0)]
noncomputable def ve_696 : List vm_E := [([.inr (.inr (some 70)), .inl (.ofNat 15, .ofNat 15)], va_h0, 0, [0])]
noncomputable def q_696 : vm_Q := (173, [.inr (.inr (some 70)), .inl (.ofNat 15, .ofNat 15)], va_h0, vp_696)
noncomputable def vk_696 : List vm_U := []
noncomputable def vf_696 : List ((Nat → am_I) → vm_A) := [fun v => (0, [(0, .inr (.inr (some 70))), (1, .inl (.ofNat 15, .ofNat 15))], [], (80, [])), fun v => (5, [(0, .inr (.inr (some 70))), (1, .inl (.ofNat 15, .ofNat 15)), (2, .inl (v 0)), (3, .inl (v 1))], [], (80, []))]
noncomputable def vd_696_0_0 : List (List Nat) := [[65536, 30064836609, 1133871431681, 2237678026753, 3341484621825, 4445291216897, 5549097811969, 25987907585]]
noncomputable def vd_696_0 : List (List (List Nat)) := [vd_696_0_0]
noncomputable def vd_696 : List (List (List (List Nat))) := [vd_696_0]
noncomputable def vt_696 : List (List am_I) := [[(.negSucc 3, .negSucc 3), (.negSucc 3, .ofNat 0), (.negSucc 3, .ofNat 1), (.negSucc 3, .ofNat 2), (.negSucc 3, .ofNat 3), (.negSucc 3, .ofNat 4), (.negSucc 3, .ofNat 5)]]
noncomputable def vc_696 : vm_C := (fun _ => vp_696, fun pc => [], [5], 8, vm_inst 8 7 vt_696 vf_696 vd_696)
theorem vx_696_0 : vm_chk bt_173 [] vk_696 18 vc_696 0 8 = true := by decide +kernel
theorem vy_696 : vm_ents 173 18 vc_696 ve_696 = true := by decide +kernel
theorem vw_696 : ∀ q ∈ vk_696, vm_wt 1 q := vm_wts vm_kn (by decide +kernel)
theorem v_696 : vm_at 2 q_696 := vm_ok (inl := []) (es := ve_696) bq_173 (by decide) vw_696 vy_696 (fun i => vm_hc vx_696_0 rfl (fun h => absurd h (Nat.not_lt_zero _))) _ List.mem_cons_self
noncomputable def vp_697 : List vm_R := [(some (.inl (.ofNat 0, .ofNat 1)), va_h0)]
noncomputable def ve_697 : List vm_E := [([.inr (.inr (some 70)), .inl (.ofNat 15, .ofNat 15)], va_h0, 0, [0])]
noncomputable def q_697 : vm_Q := (177, [.inr (.inr (some 70)), .inl (.ofNat 15, .ofNat 15)], va_h0, vp_697)
noncomputable def vk_697 : List vm_U := []
noncomputable def vf_697 : List ((Nat → am_I) → vm_A) := [fun v => (0, [(0, .inr (.inr (some 70))), (1, .inl (.ofNat 15, .ofNat 15))], [], (80, []))]
noncomputable def vd_697_0_0 : List (List Nat) := [[0]]
noncomputable def vd_697_0 : List (List (List Nat)) := [vd_697_0_0]
noncomputable def vd_697 : List (List (List (List Nat))) := [vd_697_0]
noncomputable def vt_697 : List (List am_I) := []
noncomputable def vc_697 : vm_C := (fun _ => vp_697, fun pc => [], [], 1, vm_inst 8 1 vt_697 vf_697 vd_697)
theorem vx_697_0 : vm_chk bt_177 [] vk_697 17 vc_697 0 1 = true := by decide +kernel
theorem vy_697 : vm_ents 177 17 vc_697 ve_697 = true := by decide +kernel
theorem vw_697 : ∀ q ∈ vk_697, vm_wt 1 q := vm_wts vm_kn (by decide +kernel)
theorem v_697 : vm_at 2 q_697 := vm_ok (inl := []) (es := ve_697) bq_177 (by decide) vw_697 vy_697 (fun i => vm_hc vx_697_0 rfl (fun h => absurd h (Nat.not_lt_zero _))) _ List.mem_cons_self
noncomputable def vp_698 : List vm_R := [(some (.inl (.negSucc 3, .ofNat 5)), va_h0)]
noncomputable def ve_698 : List vm_E := [([.inr (.inr (some 70)), .inl (.ofNat 16, .ofNat 16)], va_h0, 0, [0])]
noncomputable def q_698 : vm_Q := (173, [.inr (.inr (some 70)), .inl (.ofNat 16, .ofNat 16)], va_h0, vp_698)
noncomputable def vk_698 : List vm_U := []
noncomputable def vf_698 : List ((Nat → am_I) → vm_A) := [fun v => (0, [(0, .inr (.inr (some 70))), (1, .inl (.ofNat 16, .ofNat 16))], [], (80, [])), fun v => (5, [(0, .inr (.inr (some 70))), (1, .inl (.ofNat 16, .ofNat 16)), (2, .inl (v 0)), (3, .inl (v 1))], [], (80, []))]
noncomputable def vd_698_0_0 : List (List Nat) := [[65536, 30064836609, 1133871431681, 2237678026753, 3341484621825, 4445291216897, 5549097811969, 25987907585]]
noncomputable def vd_698_0 : List (List (List Nat)) := [vd_698_0_0]
noncomputable def vd_698 : List (List (List (List Nat))) := [vd_698_0]
noncomputable def vt_698 : List (List am_I) := [[(.negSucc 3, .negSucc 3), (.negSucc 3, .ofNat 0), (.negSucc 3, .ofNat 1), (.negSucc 3, .ofNat 2), (.negSucc 3, .ofNat 3), (.negSucc 3, .ofNat 4), (.negSucc 3, .ofNat 5)]]
noncomputable def vc_698 : vm_C := (fun _ => vp_698, fun pc => [], [5], 8, vm_inst 8 7 vt_698 vf_698 vd_698)
theorem vx_698_0 : vm_chk bt_173 [] vk_698 18 vc_698 0 8 = true := by decide +kernel
theorem vy_698 : vm_ents 173 18 vc_698 ve_698 = true := by decide +kernel
theorem vw_698 : ∀ q ∈ vk_698, vm_wt 1 q := vm_wts vm_kn (by decide +kernel)
theorem v_698 : vm_at 2 q_698 := vm_ok (inl := []) (es := ve_698) bq_173 (by decide) vw_698 vy_698 (fun i => vm_hc vx_698_0 rfl (fun h => absurd h (Nat.not_lt_zero _))) _ List.mem_cons_self
noncomputable def vp_699 : List vm_R := [(some (.inl (.ofNat 0, .ofNat 1)), va_h0)]
noncomputable def ve_699 : List vm_E := [([.inr (.inr (some 70)), .inl (.ofNat 16, .ofNat 16)], va_h0, 0, [0])]
noncomputable def q_699 : vm_Q := (177, [.inr (.inr (some 70)), .inl (.ofNat 16, .ofNat 16)], va_h0, vp_699)
noncomputable def vk_699 : List vm_U := []
noncomputable def vf_699 : List ((Nat → am_I) → vm_A) := [fun v => (0, [(0, .inr (.inr (some 70))), (1, .inl (.ofNat 16, .ofNat 16))], [], (80, []))]
noncomputable def vd_699_0_0 : List (List Nat) := [[0]]
noncomputable def vd_699_0 : List (List (List Nat)) := [vd_699_0_0]
noncomputable def vd_699 : List (List (List (List Nat))) := [vd_699_0]
noncomputable def vt_699 : List (List am_I) := []
noncomputable def vc_699 : vm_C := (fun _ => vp_699, fun pc => [], [], 1, vm_inst 8 1 vt_699 vf_699 vd_699)
theorem vx_699_0 : vm_chk bt_177 [] vk_699 17 vc_699 0 1 = true := by decide +kernel
theorem vy_699 : vm_ents 177 17 vc_699 ve_699 = true := by decide +kernel
theorem vw_699 : ∀ q ∈ vk_699, vm_wt 1 q := vm_wts vm_kn (by decide +kernel)
theorem v_699 : vm_at 2 q_699 := vm_ok (inl := []) (es := ve_699) bq_177 (by decide) vw_699 vy_699 (fun i => vm_hc vx_699_0 rfl (fun h => absurd h (Nat.not_lt_zero _))) _ List.mem_cons_self
noncomputable def vp_700 : List vm_R := [(some (.inl (.negSucc 3, .ofNat 5)), va_h0)]
noncomputable def ve_700 : List vm_E := [([.inr (.inr (some 70)), .inl (.ofNat 17, .ofNat 17)], va_h0, 0, [0])]
noncomputable def q_700 : vm_Q := (173, [.inr (.inr (some 70)), .inl (.ofNat 17, .ofNat 17)], va_h0, vp_700)
noncomputable def vk_700 : List vm_U := []
noncomputable def vf_700 : List ((Nat → am_I) → vm_A) := [fun v => (0, [(0, .inr (.inr (some 70))), (1, .inl (.ofNat 17, .ofNat 17))], [], (80, [])), fun v => (5, [(0, .inr (.inr (some 70))), (1, .inl (.ofNat 17, .ofNat 17)), (2, .inl (v 0)), (3, .inl (v 1))], [], (80, []))]
noncomputable def vd_700_0_0 : List (List Nat) := [[65536, 30064836609, 1133871431681, 2237678026753, 3341484621825, 4445291216897, 5549097811969, 25987907585]]
noncomputable def vd_700_0 : List (List (List Nat)) := [vd_700_0_0]
noncomputable def vd_700 : List (List (List (List Nat))) := [vd_700_0]
noncomputable def vt_700 : List (List am_I) := [[(.negSucc 3, .negSucc 3), (.negSucc 3, .ofNat 0), (.negSucc 3, .ofNat 1), (.negSucc 3, .ofNat 2), (.negSucc 3, .ofNat 3), (.negSucc 3, .ofNat 4), (.negSucc 3, .ofNat 5)]]
noncomputable def vc_700 : vm_C := (fun _ => vp_700, fun pc => [], [5], 8, vm_inst 8 7 vt_700 vf_700 vd_700)
theorem vx_700_0 : vm_chk bt_173 [] vk_700 18 vc_700 0 8 = true := by decide +kernel
theorem vy_700 : vm_ents 173 18 vc_700 ve_700 = true := by decide +kernel
theorem vw_700 : ∀ q ∈ vk_700, vm_wt 1 q := vm_wts vm_kn (by decide +kernel)
theorem v_700 : vm_at 2 q_700 := vm_ok (inl := []) (es := ve_700) bq_173 (by decide) vw_700 vy_700 (fun i => vm_hc vx_700_0 rfl (fun h => absurd h (Nat.not_lt_zero _))) _ List.mem_cons_self
noncomputable def vp_701 : List vm_R := [(some (.inl (.ofNat 0, .ofNat 1)), va_h0)]
noncomputable def ve_701 : List vm_E := [([.inr (.inr (some 70)), .inl (.ofNat 17, .ofNat 17)], va_h0, 0, [0])]
noncomputable def q_701 : vm_Q := (177, [.inr (.inr (some 70)), .inl (.ofNat 17, .ofNat 17)], va_h0, vp_701)
noncomputable def vk_701 : List vm_U := []
noncomputable def vf_701 : List ((Nat → am_I) → vm_A) := [fun v => (0, [(0, .inr (.inr (some 70))), (1, .inl (.ofNat 17, .ofNat 17))], [], (80, []))]
noncomputable def vd_701_0_0 : List (List Nat) := [[0]]
noncomputable def vd_701_0 : List (List (List Nat)) := [vd_701_0_0]
noncomputable def vd_701 : List (List (List (List Nat))) := [vd_701_0]
noncomputable def vt_701 : List (List am_I) := []
noncomputable def vc_701 : vm_C := (fun _ => vp_701, fun pc => [], [], 1, vm_inst 8 1 vt_701 vf_701 vd_701)
theorem vx_701_0 : vm_chk bt_177 [] vk_701 17 vc_701 0 1 = true := by decide +kernel
theorem vy_701 : vm_ents 177 17 vc_701 ve_701 = true := by decide +kernel
theorem vw_701 : ∀ q ∈ vk_701, vm_wt 1 q := vm_wts vm_kn (by decide +kernel)
theorem v_701 : vm_at 2 q_701 := vm_ok (inl := []) (es := ve_701) bq_177 (by decide) vw_701 vy_701 (fun i => vm_hc vx_701_0 rfl (fun h => absurd h (Nat.not_lt_zero _))) _ List.mem_cons_self
noncomputable def vp_702 : List vm_R := [(some (.inl (.negSucc 3, .ofNat 5)), va_h0)]
noncomputable def ve_702 : List vm_E := [([.inr (.inr (some 70)), .inl (.ofNat 18, .ofNat 18)], va_h0, 0, [0])]
noncomputable def q_702 : vm_Q := (173, [.inr (.inr (some 70)), .inl (.ofNat 18, .ofNat 18)], va_h0, vp_702)
noncomputable def vk_702 : List vm_U := []
noncomputable def vf_702 : List ((Nat → am_I) → vm_A) := [fun v => (0, [(0, .inr (.inr (some 70))), (1, .inl (.ofNat 18, .ofNat 18))], [], (80, [])), fun v => (5, [(0, .inr (.inr (some 70))), (1, .inl (.ofNat 18, .ofNat 18)), (2, .inl (v 0)), (3, .inl (v 1))], [], (80, []))]
noncomputable def vd_702_0_0 : List (List Nat) := [[65536, 30064836609, 1133871431681, 2237678026753, 3341484621825, 4445291216897, 5549097811969, 25987907585]]
noncomputable def vd_702_0 : List (List (List Nat)) := [vd_702_0_0]
noncomputable def vd_702 : List (List (List (List Nat))) := [vd_702_0]
noncomputable def vt_702 : List (List am_I) := [[(.negSucc 3, .negSucc 3), (.negSucc 3, .ofNat 0), (.negSucc 3, .ofNat 1), (.negSucc 3, .ofNat 2), (.negSucc 3, .ofNat 3), (.negSucc 3, .ofNat 4), (.negSucc 3, .ofNat 5)]]
noncomputable def vc_702 : vm_C := (fun _ => vp_702, fun pc => [], [5], 8, vm_inst 8 7 vt_702 vf_702 vd_702)
theorem vx_702_0 : vm_chk bt_173 [] vk_702 18 vc_702 0 8 = true := by decide +kernel
theorem vy_702 : vm_ents 173 18 vc_702 ve_702 = true := by decide +kernel
theorem vw_702 : ∀ q ∈ vk_702, vm_wt 1 q := vm_wts vm_kn (by decide +kernel)
theorem v_702 : vm_at 2 q_702 := vm_ok (inl := []) (es := ve_702) bq_173 (by decide) vw_702 vy_702 (fun i => vm_hc vx_702_0 rfl (fun h => absurd h (Nat.not_lt_zero _))) _ List.mem_cons_self
noncomputable def vp_703 : List vm_R := [(some (.inl (.ofNat 0, .ofNat 1)), va_h0)]
noncomputable def ve_703 : List vm_E := [([.inr (.inr (some 70)), .inl (.ofNat 18, .ofNat 18)], va_h0, 0, [0])]
noncomputable def q_703 : vm_Q := (177, [.inr (.inr (some 70)), .inl (.ofNat 18, .ofNat 18)], va_h0, vp_703)
noncomputable def vk_703 : List vm_U := []
noncomputable def vf_703 : List ((Nat → am_I) → vm_A) := [fun v => (0, [(0, .inr (.inr (some 70))), (1, .inl (.ofNat 18, .ofNat 18))], [], (80, []))]
noncomputable def vd_703_0_0 : List (List Nat) := [[0]]
noncomputable def vd_703_0 : List (List (List Nat)) := [vd_703_0_0]
noncomputable def vd_703 : List (List (List (List Nat))) := [vd_703_0]
noncomputable def vt_703 : List (List am_I) := []
noncomputable def vc_703 : vm_C := (fun _ => vp_703, fun pc => [], [], 1, vm_inst 8 1 vt_703 vf_703 vd_703)
theorem vx_703_0 : vm_chk bt_177 [] vk_703 17 vc_703 0 1 = true := by decide +kernel
theorem vy_703 : vm_ents 177 17 vc_703 ve_703 = true := by decide +kernel
theorem vw_703 : ∀ q ∈ vk_703, vm_wt 1 q := vm_wts vm_kn (by decide +kernel)
theorem v_703 : vm_at 2 q_703 := vm_ok (inl := []) (es := ve_703) bq_177 (by decide) vw_703 vy_703 (fun i => vm_hc vx_703_0 rfl (fun h => absurd h (Nat.not_lt_zero _))) _ List.mem_cons_self
noncomputable def vp_704 : List vm_R := [(some (.inl (.negSucc 3, .ofNat 5)), va_h0)]
noncomputable def ve_704 : List vm_E := [([.inr (.inr (some 70)), .inl (.ofNat 19, .ofNat 19)], va_h0, 0, [0])]
noncomputable def q_704 : vm_Q := (173, [.inr (.inr (some 70)), .inl (.ofNat 19, .ofNat 19)], va_h0, vp_704)
noncomputable def vk_704 : List vm_U := []
noncomputable def vf_704 : List ((Nat → am_I) → vm_A) := [fun v => (0, [(0, .inr (.inr (some 70))), (1, .inl (.ofNat 19, .ofNat 19))], [], (80, [])), fun v => (5, [(0, .inr (.inr (some 70))), (1, .inl (.ofNat 19, .ofNat 19)), (2, .inl (v 0)), (3, .inl (v 1))], [], (80, []))]
noncomputable def vd_704_0_0 : List (List Nat) := [[65536, 30064836609, 1133871431681, 2237678026753, 3341484621825, 4445291216897, 5549097811969, 25987907585]]
noncomputable def vd_704_0 : List (List (List Nat)) := [vd_704_0_0]
noncomputable def vd_704 : List (List (List (List Nat))) := [vd_704_0]
noncomputable def vt_704 : List (List am_I) := [[(.negSucc 3, .negSucc 3), (.negSucc 3, .ofNat 0), (.negSucc 3, .ofNat 1), (.negSucc 3, .ofNat 2), (.negSucc 3, .ofNat 3), (.negSucc 3, .ofNat 4), (.negSucc 3, .ofNat 5)]]
noncomputable def vc_704 : vm_C := (fun _ => vp_704, fun pc => [], [5], 8, vm_inst 8 7 vt_704 vf_704 vd_704)
theorem vx_704_0 : vm_chk bt_173 [] vk_704 18 vc_704 0 8 = true := by decide +kernel
theorem vy_704 : vm_ents 173 18 vc_704 ve_704 = true := by decide +kernel
theorem vw_704 : ∀ q ∈ vk_704, vm_wt 1 q := vm_wts vm_kn (by decide +kernel)
theorem v_704 : vm_at 2 q_704 := vm_ok (inl := []) (es := ve_704) bq_173 (by decide) vw_704 vy_704 (fun i => vm_hc vx_704_0 rfl (fun h => absurd h (Nat.not_lt_zero _))) _ List.mem_cons_self
noncomputable def vp_705 : List vm_R := [(some (.inl (.ofNat 0, .ofNat 1)), va_h0)]
noncomputable def ve_705 : List vm_E := [([.inr (.inr (some 70)), .inl (.ofNat 19, .ofNat 19)], va_h0, 0, [0])]
noncomputable def q_705 : vm_Q := (177, [.inr (.inr (some 70)), .inl (.ofNat 19, .ofNat 19)], va_h0, vp_705)
noncomputable def vk_705 : List vm_U := []
noncomputable def vf_705 : List ((Nat → am_I) → vm_A) := [fun v => (0, [(0, .inr (.inr (some 70))), (1, .inl (.ofNat 19, .ofNat 19))], [], (80, []))]
noncomputable def vd_705_0_0 : List (List Nat) := [[0]]
noncomputable def vd_705_0 : List (List (List Nat)) := [vd_705_0_0]
noncomputable def vd_705 : List (List (List (List Nat))) := [vd_705_0]
noncomputable def vt_705 : List (List am_I) := []
noncomputable def vc_705 : vm_C := (fun _ => vp_705, fun pc => [], [], 1, vm_inst 8 1 vt_705 vf_705 vd_705)
theorem vx_705_0 : vm_chk bt_177 [] vk_705 17 vc_705 0 1 = true := by decide +kernel
theorem vy_705 : vm_ents 177 17 vc_705 ve_705 = true := by decide +kernel
theorem vw_705 : ∀ q ∈ vk_705, vm_wt 1 q := vm_wts vm_kn (by decide +kernel)
theorem v_705 : vm_at 2 q_705 := vm_ok (inl := []) (es := ve_705) bq_177 (by decide) vw_705 vy_705 (fun i => vm_hc vx_705_0 rfl (fun h => absurd h (Nat.not_lt_zero _))) _ List.mem_cons_self
noncomputable def vp_706 : List vm_R := [(some (.inl (.negSucc 3, .ofNat 5)), va_h0)]
noncomputable def ve_706 : List vm_E := [([.inr (.inr (some 70)), .inl (.ofNat 20, .ofNat 20)], va_h0, 0, [0])]
noncomputable def q_706 : vm_Q := (173, [.inr (.inr (some 70)), .inl (.ofNat 20, .ofNat 20)], va_h0, vp_706)
noncomputable def vk_706 : List vm_U := []
noncomputable def vf_706 : List ((Nat → am_I) → vm_A) := [fun v => (0, [(0, .inr (.inr (some 70))), (1, .inl (.ofNat 20, .ofNat 20))], [], (80, [])), fun v => (5, [(0, .inr (.inr (some 70))), (1, .inl (.ofNat 20, .ofNat 20)), (2, .inl (v 0)), (3, .inl (v 1))], [], (80, []))]
noncomputable def vd_706_0_0 : List (List Nat) := [[65536, 30064836609, 1133871431681, 2237678026753, 3341484621825, 4445291216897, 5549097811969, 25987907585]]
noncomputable def vd_706_0 : List (List (List Nat)) := [vd_706_0_0]
noncomputable def vd_706 : List (List (List (List Nat))) := [vd_706_0]
noncomputable def vt_706 : List (List am_I) := [[(.negSucc 3, .negSucc 3), (.negSucc 3, .ofNat 0), (.negSucc 3, .ofNat 1), (.negSucc 3, .ofNat 2), (.negSucc 3, .ofNat 3), (.negSucc 3, .ofNat 4), (.negSucc 3, .ofNat 5)]]
noncomputable def vc_706 : vm_C := (fun _ => vp_706, fun pc => [], [5], 8, vm_inst 8 7 vt_706 vf_706 vd_706)
theorem vx_706_0 : vm_chk bt_173 [] vk_706 18 vc_706 0 8 = true := by decide +kernel
theorem vy_706 : vm_ents 173 18 vc_706 ve_706 = true := by decide +kernel
theorem vw_706 : ∀ q ∈ vk_706, vm_wt 1 q := vm_wts vm_kn (by decide +kernel)
theorem v_706 : vm_at 2 q_706 := vm_ok (inl := []) (es := ve_706) bq_173 (by decide) vw_706 vy_706 (fun i => vm_hc vx_706_0 rfl (fun h => absurd h (Nat.not_lt_zero _))) _ List.mem_cons_self
noncomputable def vp_707 : List vm_R := [(some (.inl (.ofNat 0, .ofNat 1)), va_h0)]
noncomputable def ve_707 : List vm_E := [([.inr (.inr (some 70)), .inl (.ofNat 20, .ofNat 20)], va_h0, 0, [0])]
noncomputable def q_707 : vm_Q := (177, [.inr (.inr (some 70)), .inl (.ofNat 20, .ofNat 20)], va_h0, vp_707)
noncomputable def vk_707 : List vm_U := []
noncomputable def vf_707 : List ((Nat → am_I) → vm_A) := [fun v => (0, [(0, .inr (.inr (some 70))), (1, .inl (.ofNat 20, .ofNat 20))], [], (80, []))]
noncomputable def vd_707_0_0 : List (List Nat) := [[0]]
noncomputable def vd_707_0 : List (List (List Nat)) := [vd_707_0_0]
noncomputable def vd_707 : List (List (List (List Nat))) := [vd_707_0]
noncomputable def vt_707 : List (List am_I) := []
noncomputable def vc_707 : vm_C := (fun _ => vp_707, fun pc => [], [], 1, vm_inst 8 1 vt_707 vf_707 vd_707)
theorem vx_707_0 : vm_chk bt_177 [] vk_707 17 vc_707 0 1 = true := by decide +kernel
theorem vy_707 : vm_ents 177 17 vc_707 ve_707 = true := by decide +kernel
theorem vw_707 : ∀ q ∈ vk_707, vm_wt 1 q := vm_wts vm_kn (by decide +kernel)
theorem v_707 : vm_at 2 q_707 := vm_ok (inl := []) (es := ve_707) bq_177 (by decide) vw_707 vy_707 (fun i => vm_hc vx_707_0 rfl (fun h => absurd h (Nat.not_lt_zero _))) _ List.mem_cons_self
noncomputable def vp_708 : List vm_R := [(some (.inl (.negSucc 3, .ofNat 5)), va_h0)]
noncomputable def ve_708 : List vm_E := [([.inr (.inr (some 70)), .inl (.ofNat 21, .ofNat 21)], va_h0, 0, [0])]
noncomputable def q_708 : vm_Q := (173, [.inr (.inr (some 70)), .inl (.ofNat 21, .ofNat 21)], va_h0, vp_708)
noncomputable def vk_708 : List vm_U := []
noncomputable def vf_708 : List ((Nat → am_I) → vm_A) := [fun v => (0, [(0, .inr (.inr (some 70))), (1, .inl (.ofNat 21, .ofNat 21))], [], (80, [])), fun v => (5, [(0, .inr (.inr (some 70))), (1, .inl (.ofNat 21, .ofNat 21)), (2, .inl (v 0)), (3, .inl (v 1))], [], (80, []))]
noncomputable def vd_708_0_0 : List (List Nat) := [[65536, 30064836609, 1133871431681, 2237678026753, 3341484621825, 4445291216897, 5549097811969, 25987907585]]
noncomputable def vd_708_0 : List (List (List Nat)) := [vd_708_0_0]
noncomputable def vd_708 : List (List (List (List Nat))) := [vd_708_0]
noncomputable def vt_708 : List (List am_I) := [[(.negSucc 3, .negSucc 3), (.negSucc 3, .ofNat 0), (.negSucc 3, .ofNat 1), (.negSucc 3, .ofNat 2), (.negSucc 3, .ofNat 3), (.negSucc 3, .ofNat 4), (.negSucc 3, .ofNat 5)]]
noncomputable def vc_708 : vm_C := (fun _ => vp_708, fun pc => [], [5], 8, vm_inst 8 7 vt_708 vf_708 vd_708)
theorem vx_708_0 : vm_chk bt_173 [] vk_708 18 vc_708 0 8 = true := by decide +kernel
theorem vy_708 : vm_ents 173 18 vc_708 ve_708 = true := by decide +kernel
theorem vw_708 : ∀ q ∈ vk_708, vm_wt 1 q := vm_wts vm_kn (by decide +kernel)
theorem v_708 : vm_at 2 q_708 := vm_ok (inl := []) (es := ve_708) bq_173 (by decide) vw_708 vy_708 (fun i => vm_hc vx_708_0 rfl (fun h => absurd h (Nat.not_lt_zero _))) _ List.mem_cons_self
noncomputable def vp_709 : List vm_R := [(some (.inl (.ofNat 0, .ofNat 1)), va_h0)]
noncomputable def ve_709 : List vm_E := [([.inr (.inr (some 70)), .inl (.ofNat 21, .ofNat 21)], va_h0, 0, [0])]
noncomputable def q_709 : vm_Q := (177, [.inr (.inr (some 70)), .inl (.ofNat 21, .ofNat 21)], va_h0, vp_709)
noncomputable def vk_709 : List vm_U := []
noncomputable def vf_709 : List ((Nat → am_I) → vm_A) := [fun v => (0, [(0, .inr (.inr (some 70))), (1, .inl (.ofNat 21, .ofNat 21))], [], (80, []))]
noncomputable def vd_709_0_0 : List (List Nat) := [[0]]
noncomputable def vd_709_0 : List (List (List Nat)) := [vd_709_0_0]
noncomputable def vd_709 : List (List (List (List Nat))) := [vd_709_0]
noncomputable def vt_709 : List (List am_I) := []
noncomputable def vc_709 : vm_C := (fun _ => vp_709, fun pc => [], [], 1, vm_inst 8 1 vt_709 vf_709 vd_709)
theorem vx_709_0 : vm_chk bt_177 [] vk_709 17 vc_709 0 1 = true := by decide +kernel
theorem vy_709 : vm_ents 177 17 vc_709 ve_709 = true := by decide +kernel
theorem vw_709 : ∀ q ∈ vk_709, vm_wt 1 q := vm_wts vm_kn (by decide +kernel)
theorem v_709 : vm_at 2 q_709 := vm_ok (inl := []) (es := ve_709) bq_177 (by decide) vw_709 vy_709 (fun i => vm_hc vx_709_0 rfl (fun h => absurd h (Nat.not_lt_zero _))) _ List.mem_cons_self
noncomputable def vp_710 : List vm_R := [(some (.inl (.negSucc 3, .ofNat 5)), va_h0)]
noncomputable def ve_710 : List vm_E := [([.inr (.inr (some 70)), .inl (.ofNat 22, .ofNat 22)], va_h0, 0, [0])]
noncomputable def q_710 : vm_Q := (173, [.inr (.inr (some 70)), .inl (.ofNat 22, .ofNat 22)], va_h0, vp_710)
noncomputable def vk_710 : List vm_U := []
noncomputable def vf_710 : List ((Nat → am_I) → vm_A) := [fun v => (0, [(0, .inr (.inr (some 70))), (1, .inl (.ofNat 22, .ofNat 22))], [], (80, [])), fun v => (5, [(0, .inr (.inr (some 70))), (1, .inl (.ofNat 22, .ofNat 22)), (2, .inl (v 0)), (3, .inl (v 1))], [], (80, []))]
noncomputable def vd_710_0_0 : List (List Nat) := [[65536, 30064836609, 1133871431681, 2237678026753, 3341484621825, 4445291216897, 5549097811969, 25987907585]]
noncomputable def vd_710_0 : List (List (List Nat)) := [vd_710_0_0]
noncomputable def vd_710 : List (List (List (List Nat))) := [vd_710_0]
noncomputable def vt_710 : List (List am_I) := [[(.negSucc 3, .negSucc 3), (.negSucc 3, .ofNat 0), (.negSucc 3, .ofNat 1), (.negSucc 3, .ofNat 2), (.negSucc 3, .ofNat 3), (.negSucc 3, .ofNat 4), (.negSucc 3, .ofNat 5)]]
noncomputable def vc_710 : vm_C := (fun _ => vp_710, fun pc => [], [5], 8, vm_inst 8 7 vt_710 vf_710 vd_710)
theorem vx_710_0 : vm_chk bt_173 [] vk_710 18 vc_710 0 8 = true := by decide +kernel
theorem vy_710 : vm_ents 173 18 vc_710 ve_710 = true := by decide +kernel
theorem vw_710 : ∀ q ∈ vk_710, vm_wt 1 q := vm_wts vm_kn (by decide +kernel)
theorem v_710 : vm_at 2 q_710 := vm_ok (inl := []) (es := ve_710) bq_173 (by decide) vw_710 vy_710 (fun i => vm_hc vx_710_0 rfl (fun h => absurd h (Nat.not_lt_zero _))) _ List.mem_cons_self
noncomputable def vp_711 : List vm_R := [(some (.inl (.ofNat 0, .ofNat 1)), va_h0)]
noncomputable def ve_711 : List vm_E := [([.inr (.inr (some 70)), .inl (.ofNat 22, .ofNat 22)], va_h0, 0, [0])]
noncomputable def q_711 : vm_Q := (177, [.inr (.inr (some 70)), .inl (.ofNat 22, .ofNat 22)], va_h0, vp_711)
noncomputable def vk_711 : List vm_U := []
noncomputable def vf_711 : List ((Nat → am_I) → vm_A) := [fun v => (0, [(0, .inr (.inr (some 70))), (1, .inl (.ofNat 22, .ofNat 22))], [], (80, []))]
noncomputable def vd_711_0_0 : List (List Nat) := [[0]]
noncomputable def vd_711_0 : List (List (List Nat)) := [vd_711_0_0]
noncomputable def vd_711 : List (List (List (List Nat))) := [vd_711_0]
noncomputable def vt_711 : List (List am_I) := []
noncomputable def vc_711 : vm_C := (fun _ => vp_711, fun pc => [], [], 1, vm_inst 8 1 vt_711 vf_711 vd_711)
theorem vx_711_0 : vm_chk bt_177 [] vk_711 17 vc_711 0 1 = true := by decide +kernel
theorem vy_711 : vm_ents 177 17 vc_711 ve_711 = true := by decide +kernel
theorem vw_711 : ∀ q ∈ vk_711, vm_wt 1 q := vm_wts vm_kn (by decide +kernel)
theorem v_711 : vm_at 2 q_711 := vm_ok (inl := []) (es := ve_711) bq_177 (by decide) vw_711 vy_711 (fun i => vm_hc vx_711_0 rfl (fun h => absurd h (Nat.not_lt_zero _))) _ List.mem_cons_self
noncomputable def vp_712 : List vm_R := [(some (.inl (.negSucc 3, .ofNat 5)), va_h0)]
noncomputable def ve_712 : List vm_E := [([.inr (.inr (some 70)), .inl (.ofNat 23, .ofNat 23)], va_h0, 0, [0])]
noncomputable def q_712 : vm_Q := (173, [.inr (.inr (some 70)), .inl (.ofNat 23, .ofNat 23)], va_h0, vp_712)
noncomputable def vk_712 : List vm_U := []
noncomputable def vf_712 : List ((Nat → am_I) → vm_A) := [fun v => (0, [(0, .inr (.inr (some 70))), (1, .inl (.ofNat 23, .ofNat 23))], [], (80, [])), fun v => (5, [(0, .inr (.inr (some 70))), (1, .inl (.ofNat 23, .ofNat 23)), (2, .inl (v 0)), (3, .inl (v 1))], [], (80, []))]
noncomputable def vd_712_0_0 : List (List Nat) := [[65536, 30064836609, 1133871431681, 2237678026753, 3341484621825, 4445291216897, 5549097811969, 25987907585]]
noncomputable def vd_712_0 : List (List (List Nat)) := [vd_712_0_0]
noncomputable def vd_712 : List (List (List (List Nat))) := [vd_712_0]
noncomputable def vt_712 : List (List am_I) := [[(.negSucc 3, .negSucc 3), (.negSucc 3, .ofNat 0), (.negSucc 3, .ofNat 1), (.negSucc 3, .ofNat 2), (.negSucc 3, .ofNat 3), (.negSucc 3, .ofNat 4), (.negSucc 3, .ofNat 5)]]
noncomputable def vc_712 : vm_C := (fun _ => vp_712, fun pc => [], [5], 8, vm_inst 8 7 vt_712 vf_712 vd_712)
theorem vx_712_0 : vm_chk bt_173 [] vk_712 18 vc_712 0 8 = true := by decide +kernel
theorem vy_712 : vm_ents 173 18 vc_712 ve_712 = true := by decide +kernel
theorem vw_712 : ∀ q ∈ vk_712, vm_wt 1 q := vm_wts vm_kn (by decide +kernel)
theorem v_712 : vm_at 2 q_712 := vm_ok (inl := []) (es := ve_712) bq_173 (by decide) vw_712 vy_712 (fun i => vm_hc vx_712_0 rfl (fun h => absurd h (Nat.not_lt_zero _))) _ List.mem_cons_self
noncomputable def vp_713 : List vm_R := [(some (.inl (.ofNat 0, .ofNat 1)), va_h0)]
noncomputable def ve_713 : List vm_E := [([.inr (.inr (some 70)), .inl (.ofNat 23, .ofNat 23)], va_h0, 0, [0])]
noncomputable def q_713 : vm_Q := (177, [.inr (.inr (some 70)), .inl (.ofNat 23, .ofNat 23)], va_h0, vp_713)
noncomputable def vk_713 : List vm_U := []
noncomputable def vf_713 : List ((Nat → am_I) → vm_A) := [fun v => (0, [(0, .inr (.inr (some 70))), (1, .inl (.ofNat 23, .ofNat 23))], [], (80, []))]
noncomputable def vd_713_0_0 : List (List Nat) := [[0]]
noncomputable def vd_713_0 : List (List (List Nat)) := [vd_713_0_0]
noncomputable def vd_713 : List (List (List (List Nat))) := [vd_713_0]
noncomputable def vt_713 : List (List am_I) := []
noncomputable def vc_713 : vm_C := (fun _ => vp_713, fun pc => [], [], 1, vm_inst 8 1 vt_713 vf_713 vd_713)
theorem vx_713_0 : vm_chk bt_177 [] vk_713 17 vc_713 0 1 = true := by decide +kernel
theorem vy_713 : vm_ents 177 17 vc_713 ve_713 = true := by decide +kernel
theorem vw_713 : ∀ q ∈ vk_713, vm_wt 1 q := vm_wts vm_kn (by decide +kernel)
theorem v_713 : vm_at 2 q_713 := vm_ok (inl := []) (es := ve_713) bq_177 (by decide) vw_713 vy_713 (fun i => vm_hc vx_713_0 rfl (fun h => absurd h (Nat.not_lt_zero _))) _ List.mem_cons_self
noncomputable def vp_714 : List vm_R := [(some (.inl (.negSucc 3, .ofNat 5)), va_h0)]
noncomputable def ve_714 : List vm_E := [([.inr (.inr (some 70)), .inl (.ofNat 24, .ofNat 24)], va_h0, 0, [0])]
noncomputable def q_714 : vm_Q := (173, [.inr (.inr (some 70)), .inl (.ofNat 24, .ofNat 24)], va_h0, vp_714)
noncomputable def vk_714 : List vm_U := []
noncomputable def vf_714 : List ((Nat → am_I) → vm_A) := [fun v => (0, [(0, .inr (.inr (some 70))), (1, .inl (.ofNat 24, .ofNat 24))], [], (80, [])), fun v => (5, [(0, .inr (.inr (some 70))), (1, .inl (.ofNat 24, .ofNat 24)), (2, .inl (v 0)), (3, .inl (v 1))], [], (80, []))]
noncomputable def vd_714_0_0 : List (List Nat) := [[65536, 30064836609, 1133871431681, 2237678026753, 3341484621825, 4445291216897, 5549097811969, 25987907585]]
noncomputable def vd_714_0 : List (List (List Nat)) := [vd_714_0_0]
noncomputable def vd_714 : List (List (List (List Nat))) := [vd_714_0]
noncomputable def vt_714 : List (List am_I) := [[(.negSucc 3, .negSucc 3), (.negSucc 3, .ofNat 0), (.negSucc 3, .ofNat 1), (.negSucc 3, .ofNat 2), (.negSucc 3, .ofNat 3), (.negSucc 3, .ofNat 4), (.negSucc 3, .ofNat 5)]]
noncomputable def vc_714 : vm_C := (fun _ => vp_714, fun pc => [], [5], 8, vm_inst 8 7 vt_714 vf_714 vd_714)
theorem vx_714_0 : vm_chk bt_173 [] vk_714 18 vc_714 0 8 = true := by decide +kernel
theorem vy_714 : vm_ents 173 18 vc_714 ve_714 = true := by decide +kernel
theorem vw_714 : ∀ q ∈ vk_714, vm_wt 1 q := vm_wts vm_kn (by decide +kernel)
theorem v_714 : vm_at 2 q_714 := vm_ok (inl := []) (es := ve_714) bq_173 (by decide) vw_714 vy_714 (fun i => vm_hc vx_714_0 rfl (fun h => absurd h (Nat.not_lt_zero _))) _ List.mem_cons_self
noncomputable def vp_715 : List vm_R := [(some (.inl (.ofNat 0, .ofNat 1)), va_h0)]
noncomputable def ve_715 : List vm_E := [([.inr (.inr (some 70)), .inl (.ofNat 24, .ofNat 24)], va_h0, 0, [0])]
noncomputable def q_715 : vm_Q := (177, [.inr (.inr (some 70)), .inl (.ofNat 24, .ofNat 24)], va_h0, vp_715)
noncomputable def vk_715 : List vm_U := []
noncomputable def vf_715 : List ((Nat → am_I) → vm_A) := [fun v => (0, [(0, .inr (.inr (some 70))), (1, .inl (.ofNat 24, .ofNat 24))], [], (80, []))]
noncomputable def vd_715_0_0 : List (List Nat) := [[0]]
noncomputable def vd_715_0 : List (List (List Nat)) := [vd_715_0_0]
noncomputable def vd_715 : List (List (List (List Nat))) := [vd_715_0]
noncomputable def vt_715 : List (List am_I) := []
noncomputable def vc_715 : vm_C := (fun _ => vp_715, fun pc => [], [], 1, vm_inst 8 1 vt_715 vf_715 vd_715)
theorem vx_715_0 : vm_chk bt_177 [] vk_715 17 vc_715 0 1 = true := by decide +kernel
theorem vy_715 : vm_ents 177 17 vc_715 ve_715 = true := by decide +kernel
theorem vw_715 : ∀ q ∈ vk_715, vm_wt 1 q := vm_wts vm_kn (by decide +kernel)
theorem v_715 : vm_at 2 q_715 := vm_ok (inl := []) (es := ve_715) bq_177 (by decide) vw_715 vy_715 (fun i => vm_hc vx_715_0 rfl (fun h => absurd h (Nat.not_lt_zero _))) _ List.mem_cons_self
noncomputable def vp_716 : List vm_R := [(some (.inl am_top), va_h0)]
noncomputable def ve_716 : List vm_E := [([.inr (.inr (some 70)), .inl am_top], va_h0, 0, [0, 1, 28])]
noncomputable def q_716 : vm_Q := (207, [.inr (.inr (some 70)), .inl am_top], va_h0, vp_716)
noncomputable def vk_716 : List vm_U := [(q_521, true, []), (q_522, true, []), (q_636, true, []), (q_586, true, []), (q_568, true, []), (q_482, false, []), (q_666, true, []), (q_668, true, []), (q_670, true, []), (q_672, true, []), (q_674, true, []), (q_676, true, []), (q_678, true, []), (q_680, true, []), (q_682, true, []), (q_684, true, []), (q_686, true, []), (q_688, true, []), (q_690, true, []), (q_692, true, []), (q_694, true, []), (q_696, true, []), (q_698, true, []), (q_700, true, []), (q_702, true, []), (q_704, true, []), (q_706, true, []), (q_708, true, []), (q_710, true, []), (q_712, true, []), (q_714, true, []), (q_667, true, []), (q_669, true, []), (q_671, true, []), (q_673, true, []), (q_675, true, []), (q_677, true, []), (q_679, true, []), (q_681, true, []), (q_683, true, []), (q_685, true, []), (q_687, true, []), (q_689, true, []), (q_691, true, []), (q_693, true, []), (q_695, true, []), (q_697, true, []), (q_699, true, []), (q_701, true, []), (q_703, true, []), (q_705, true, []), (q_707, true, []), (q_709, true, []), (q_711, true, []), (q_713, true, []), (q_715, true, []), (q_558, false, [])]
noncomputable def vf_716 : List ((Nat → am_I) → vm_A) := [fun v => (0, [(0, .inr (.inr (some 70))), (1, .inl (v 0))], [], (80, [])), fun v => (14, [(0, .inr (.inr (some 70))), (1, .inl (.ofNat 0, .ofNat 4)), (2, .inl (.ofNat 0, .ofNat 0)), (3, .inl (.ofNat 0, .ofNat 0))], [], (80, [])), fun v => (14, [(0, .inr (.inr (some 70))), (1, .inl (.ofNat 0, .ofNat 4)), (2, .inl (v 0)), (3, .inl (v 1)), (4, .inl am_top)], [], (80, []))]
noncomputable def vd_716_0_0 : List (List Nat) := [[436207616, 115964182528, 65537, 1224065744898, 2327872339970, 3427383967746, 4526895595522, 5626407223298], [6725918851074, 7825430478850, 8924942106626, 10024453734402, 11123965362178, 12223476989954, 13322988617730, 14422500245506], [15522011873282, 16621523501058, 17721035128834, 18820546756610, 19920058384386, 21019570012162, 22119081639938, 23218593267714], [24318104895490, 25417616523266, 26517128151042, 107877498882, 469762048]]
noncomputable def vd_716_0 : List (List (List Nat)) := [vd_716_0_0]
noncomputable def vd_716 : List (List (List (List Nat))) := [vd_716_0]
noncomputable def vt_716 : List (List am_I) := [[(.ofNat 5, .ofNat 2147483647), (.ofNat 0, .ofNat 4), (.negSucc 2147483647, .negSucc 0), (.ofNat 0, .ofNat 1), am_top]]
noncomputable def vc_716 : vm_C := (fun _ => vp_716, fun pc => (match Nat.beq pc 0 with
  | true => [(fun _ _ => some (.inl 1), fun _ _ => some [.ofNat 0, .ofNat 5])]
  | false => []), [14], 29, vm_inst 8 26 vt_716 vf_716 vd_716)
theorem vx_716_0 : vm_chk bt_207 [] vk_716 44 vc_716 0 5 = true := by decide +kernel
theorem vx_716_1 : vm_chk bt_207 [] vk_716 44 vc_716 5 3 = true := by decide +kernel
theorem vx_716_2 : vm_chk bt_207 [] vk_716 44 vc_716 8 3 = true := by decide +kernel
theorem vx_716_3 : vm_chk bt_207 [] vk_716 44 vc_716 11 3 = true := by decide +kernel
theorem vx_716_4 : vm_chk bt_207 [] vk_716 44 vc_716 14 3 = true := by decide +kernel
theorem vx_716_5 : vm_chk bt_207 [] vk_716 44 vc_716 17 3 = true := by decide +kernel
theorem vx_716_6 : vm_chk bt_207 [] vk_716 44 vc_716 20 3 = true := by decide +kernel
theorem vx_716_7 : vm_chk bt_207 [] vk_716 44 vc_716 23 3 = true := by decide +kernel
theorem vx_716_8 : vm_chk bt_207 [] vk_716 44 vc_716 26 3 = true := by decide +kernel
theorem vy_716 : vm_ents 207 44 vc_716 ve_716 = true := by decide +kernel
theorem vw_716 : ∀ q ∈ vk_716, vm_wt 6 q := vm_wts (vm_kc (vm_up v_521 rfl) (vm_kc (vm_up v_522 rfl) (vm_kc (vm_up v_636 rfl) (vm_kc (vm_up v_586 rfl) (vm_kc (vm_up v_568 rfl) (vm_kc (vm_up v_482 rfl) (vm_kc (vm_up v_666 rfl) (vm_kc (vm_up v_668 rfl) (vm_kc (vm_up v_670 rfl) (vm_kc (vm_up v_672 rfl) (vm_kc (vm_up v_674 rfl) (vm_kc (vm_up v_676 rfl) (vm_kc (vm_up v_678 rfl) (vm_kc (vm_up v_680 rfl) (vm_kc (vm_up v_682 rfl) (vm_kc (vm_up v_684 rfl) (vm_kc (vm_up v_686 rfl) (vm_kc (vm_up v_688 rfl) (vm_kc (vm_up v_690 rfl) (vm_kc (vm_up v_692 rfl) (vm_kc (vm_up v_694 rfl) (vm_kc (vm_up v_696 rfl) (vm_kc (vm_up v_698 rfl) (vm_kc (vm_up v_700 rfl) (vm_kc (vm_up v_702 rfl) (vm_kc (vm_up v_704 rfl) (vm_kc (vm_up v_706 rfl) (vm_kc (vm_up v_708 rfl) (vm_kc (vm_up v_710 rfl) (vm_kc (vm_up v_712 rfl) (vm_kc (vm_up v_714 rfl) (vm_kc (vm_up v_667 rfl) (vm_kc (vm_up v_669 rfl) (vm_kc (vm_up v_671 rfl) (vm_kc (vm_up v_673 rfl) (vm_kc (vm_up v_675 rfl) (vm_kc (vm_up v_677 rfl) (vm_kc (vm_up v_679 rfl) (vm_kc (vm_up v_681 rfl) (vm_kc (vm_up v_683 rfl) (vm_kc (vm_up v_685 rfl) (vm_kc (vm_up v_687 rfl) (vm_kc (vm_up v_689 rfl) (vm_kc (vm_up v_691 rfl) (vm_kc (vm_up v_693 rfl) (vm_kc (vm_up v_695 rfl) (vm_kc (vm_up v_697 rfl) (vm_kc (vm_up v_699 rfl) (vm_kc (vm_up v_701 rfl) (vm_kc (vm_up v_703 rfl) (vm_kc (vm_up v_705 rfl) (vm_kc (vm_up v_707 rfl) (vm_kc (vm_up v_709 rfl) (vm_kc (vm_up v_711 rfl) (vm_kc (vm_up v_713 rfl) (vm_kc (vm_up v_715 rfl) (vm_kc (vm_up v_558 rfl) vm_kn))))))))))))))))))))))))))))))))))))))))))))))))))))))))) (by decide +kernel)
theorem v_716 : vm_at 7 q_716 := vm_ok (inl := []) (es := ve_716) bq_207 (by decide) vw_716 vy_716 (fun i => vm_hc vx_716_8 rfl (vm_hc vx_716_7 rfl (vm_hc vx_716_6 rfl (vm_hc vx_716_5 rfl (vm_hc vx_716_4 rfl (vm_hc vx_716_3 rfl (vm_hc vx_716_2 rfl (vm_hc vx_716_1 rfl (vm_hc vx_716_0 rfl (fun h => absurd h (Nat.not_lt_zero _))))))))))) _ List.mem_cons_self
noncomputable def vp_717 : List vm_R := [(some (.inl (.ofNat 0, .ofNat 1)), va_h0)]
noncomputable def ve_717 : List vm_E := [([.inr (.inl am_top), .inr (.inl (.ofNat 10, .ofNat 10)), .inr (.inl (.ofNat 13, .ofNat 13))], va_h0, 0, [0])]
noncomputable def q_717 : vm_Q := (149, [.inr (.inl am_top), .inr (.inl (.ofNat 10, .ofNat 10)), .inr (.inl (.ofNat 13, .ofNat 13))], va_h0, vp_717)
noncomputable def vk_717 : List vm_U := []
noncomputable def vf_717 : List ((Nat → am_I) → vm_A) := [fun v => (0, [(0, .inr (.inl am_top)), (2, .inr (.inl (.ofNat 10, .ofNat 10))), (4, .inr (.inl (.ofNat 13, .ofNat 13)))], [], (80, []))]
noncomputable def vd_717_0_0 : List (List Nat) := [[0]]
noncomputable def vd_717_0 : List (List (List Nat)) := [vd_717_0_0]
noncomputable def vd_717 : List (List (List (List Nat))) := [vd_717_0]
noncomputable def vt_717 : List (List am_I) := []
noncomputable def vc_717 : vm_C := (fun _ => vp_717, fun pc => [], [], 1, vm_inst 8 1 vt_717 vf_717 vd_717)
theorem vx_717_0 : vm_chk bt_149 [] vk_717 13 vc_717 0 1 = true := by decide +kernel
theorem vy_717 : vm_ents 149 13 vc_717 ve_717 = true := by decide +kernel
theorem vw_717 : ∀ q ∈ vk_717, vm_wt 1 q := vm_wts vm_kn (by decide +kernel)
theorem v_717 : vm_at 2 q_717 := vm_ok (inl := []) (es := ve_717) bq_149 (by decide) vw_717 vy_717 (fun i => vm_hc vx_717_0 rfl (fun h => absurd h (Nat.not_lt_zero _))) _ List.mem_cons_self
noncomputable def vp_718 : List vm_R := [(some (.inl (.ofNat 1, .ofNat 1)), va_h0)]
noncomputable def ve_718 : List vm_E := [([.inl (.ofNat 0, .ofNat 0)], va_h0, 0, [0])]
noncomputable def q_718 : vm_Q := (202, [.inl (.ofNat 0, .ofNat 0)], va_h0, vp_718)
noncomputable def vk_718 : List vm_U := []
noncomputable def vf_718 : List ((Nat → am_I) → vm_A) := [fun v => (0, [(0, .inl (.ofNat 0, .ofNat 0))], [], (80, []))]
noncomputable def vd_718_0_0 : List (List Nat) := [[0]]
noncomputable def vd_718_0 : List (List (List Nat)) := [vd_718_0_0]
noncomputable def vd_718 : List (List (List (List Nat))) := [vd_718_0]
noncomputable def vt_718 : List (List am_I) := []
noncomputable def vc_718 : vm_C := (fun _ => vp_718, fun pc => (match Nat.beq pc 0 with
  | true => [(fun _ _ => some (.inl 0), fun _ _ => some [.ofNat 0, .ofNat 1, .ofNat 2, .ofNat 3, .ofNat 4, .ofNat 5, .ofNat 6])]
  | false => []), [], 1, vm_inst 8 1 vt_718 vf_718 vd_718)
theorem vx_718_0 : vm_chk bt_202 [] vk_718 8 vc_718 0 1 = true := by decide +kernel
theorem vy_718 : vm_ents 202 8 vc_718 ve_718 = true := by decide +kernel
theorem vw_718 : ∀ q ∈ vk_718, vm_wt 1 q := vm_wts vm_kn (by decide +kernel)
theorem v_718 : vm_at 2 q_718 := vm_ok (inl := []) (es := ve_718) bq_202 (by decide) vw_718 vy_718 (fun i => vm_hc vx_718_0 rfl (fun h => absurd h (Nat.not_lt_zero _))) _ List.mem_cons_self
noncomputable def vp_719 : List vm_R := [(some (.inl am_top), va_h0)]
noncomputable def ve_719 : List vm_E := [([.inr (.inr (some 70)), .inl (.ofNat 0, .ofNat 4), .inl (.ofNat 0, .ofNat 4)], va_h0, 0, [0])]
noncomputable def q_719 : vm_Q := (185, [.inr (.inr (some 70)), .inl (.ofNat 0, .ofNat 4), .inl (.ofNat 0, .ofNat 4)], va_h0, vp_719)
noncomputable def vk_719 : List vm_U := [(q_484, true, [])]
noncomputable def vf_719 : List ((Nat → am_I) → vm_A) := [fun v => (0, [(0, .inr (.inr (some 70))), (1, .inl (.ofNat 0, .ofNat 4)), (2, .inl (.ofNat 0, .ofNat 4))], [], (80, []))]
noncomputable def vd_719_0_0 : List (List Nat) := [[0]]
noncomputable def vd_719_0 : List (List (List Nat)) := [vd_719_0_0]
noncomputable def vd_719 : List (List (List (List Nat))) := [vd_719_0]
noncomputable def vt_719 : List (List am_I) := []
noncomputable def vc_719 : vm_C := (fun _ => vp_719, fun pc => [], [], 1, vm_inst 8 1 vt_719 vf_719 vd_719)
theorem vx_719_0 : vm_chk bt_185 [] vk_719 36 vc_719 0 1 = true := by decide +kernel
theorem vy_719 : vm_ents 185 36 vc_719 ve_719 = true := by decide +kernel
theorem vw_719 : ∀ q ∈ vk_719, vm_wt 2 q := vm_wts (vm_kc (vm_up v_484 rfl) vm_kn) (by decide +kernel)
theorem v_719 : vm_at 3 q_719 := vm_ok (inl := []) (es := ve_719) bq_185 (by decide) vw_719 vy_719 (fun i => vm_hc vx_719_0 rfl (fun h => absurd h (Nat.not_lt_zero _))) _ List.mem_cons_self
noncomputable def vp_720 : List vm_R := [(some (.inl (.ofNat 4, .ofNat 4)), va_h0)]
noncomputable def ve_720 : List vm_E := [([.inl (.ofNat 1, .ofNat 1)], va_h0, 0, [0])]
noncomputable def q_720 : vm_Q := (202, [.inl (.ofNat 1, .ofNat 1)], va_h0, vp_720)
noncomputable def vk_720 : List vm_U := []
noncomputable def vf_720 : List ((Nat → am_I) → vm_A) := [fun v => (0, [(0, .inl (.ofNat 1, .ofNat 1))], [], (80, []))]
noncomputable def vd_720_0_0 : List (List Nat) := [[0]]
noncomputable def vd_720_0 : List (List (List Nat)) := [vd_720_0_0]
noncomputable def vd_720 : List (List (List (List Nat))) := [vd_720_0]
noncomputable def vt_720 : List (List am_I) := []
noncomputable def vc_720 : vm_C := (fun _ => vp_720, fun pc => (match Nat.beq pc 0 with
  | true => [(fun _ _ => some (.inl 0), fun _ _ => some [.ofNat 0, .ofNat 1, .ofNat 2, .ofNat 3, .ofNat 4, .ofNat 5, .ofNat 6])]
  | false => []), [], 1, vm_inst 8 1 vt_720 vf_720 vd_720)
theorem vx_720_0 : vm_chk bt_202 [] vk_720 8 vc_720 0 1 = true := by decide +kernel
theorem vy_720 : vm_ents 202 8 vc_720 ve_720 = true := by decide +kernel
theorem vw_720 : ∀ q ∈ vk_720, vm_wt 1 q := vm_wts vm_kn (by decide +kernel)
theorem v_720 : vm_at 2 q_720 := vm_ok (inl := []) (es := ve_720) bq_202 (by decide) vw_720 vy_720 (fun i => vm_hc vx_720_0 rfl (fun h => absurd h (Nat.not_lt_zero _))) _ List.mem_cons_self
noncomputable def vp_721 : List vm_R := [(some (.inl (.ofNat 16, .ofNat 16)), va_h0)]
noncomputable def ve_721 : List vm_E := [([.inl (.ofNat 2, .ofNat 2)], va_h0, 0, [0])]
noncomputable def q_721 : vm_Q := (202, [.inl (.ofNat 2, .ofNat 2)], va_h0, vp_721)
noncomputable def vk_721 : List vm_U := []
noncomputable def vf_721 : List ((Nat → am_I) → vm_A) := [fun v => (0, [(0, .inl (.ofNat 2, .ofNat 2))], [], (80, []))]
noncomputable def vd_721_0_0 : List (List Nat) := [[0]]
noncomputable def vd_721_0 : List (List (List Nat)) := [vd_721_0_0]
noncomputable def vd_721 : List (List (List (List Nat))) := [vd_721_0]
noncomputable def vt_721 : List (List am_I) := []
noncomputable def vc_721 : vm_C := (fun _ => vp_721, fun pc => (match Nat.beq pc 0 with
  | true => [(fun _ _ => some (.inl 0), fun _ _ => some [.ofNat 0, .ofNat 1, .ofNat 2, .ofNat 3, .ofNat 4, .ofNat 5, .ofNat 6])]
  | false => []), [], 1, vm_inst 8 1 vt_721 vf_721 vd_721)
theorem vx_721_0 : vm_chk bt_202 [] vk_721 8 vc_721 0 1 = true := by decide +kernel
theorem vy_721 : vm_ents 202 8 vc_721 ve_721 = true := by decide +kernel
theorem vw_721 : ∀ q ∈ vk_721, vm_wt 1 q := vm_wts vm_kn (by decide +kernel)
theorem v_721 : vm_at 2 q_721 := vm_ok (inl := []) (es := ve_721) bq_202 (by decide) vw_721 vy_721 (fun i => vm_hc vx_721_0 rfl (fun h => absurd h (Nat.not_lt_zero _))) _ List.mem_cons_self
noncomputable def vp_722 : List vm_R := [(some (.inl (.ofNat 64, .ofNat 64)), va_h0)]
noncomputable def ve_722 : List vm_E := [([.inl (.ofNat 3, .ofNat 3)], va_h0, 0, [0])]
noncomputable def q_722 : vm_Q := (202, [.inl (.ofNat 3, .ofNat 3)], va_h0, vp_722)
noncomputable def vk_722 : List vm_U := []
noncomputable def vf_722 : List ((Nat → am_I) → vm_A) := [fun v => (0, [(0, .inl (.ofNat 3, .ofNat 3))], [], (80, []))]
noncomputable def vd_722_0_0 : List (List Nat) := [[0]]
noncomputable def vd_722_0 : List (List (List Nat)) := [vd_722_0_0]
noncomputable def vd_722 : List (List (List (List Nat))) := [vd_722_0]
noncomputable def vt_722 : List (List am_I) := []
noncomputable def vc_722 : vm_C := (fun _ => vp_722, fun pc => (match Nat.beq pc 0 with
  | true => [(fun _ _ => some (.inl 0), fun _ _ => some [.ofNat 0, .ofNat 1, .ofNat 2, .ofNat 3, .ofNat 4, .ofNat 5, .ofNat 6])]
  | false => []), [], 1, vm_inst 8 1 vt_722 vf_722 vd_722)
theorem vx_722_0 : vm_chk bt_202 [] vk_722 8 vc_722 0 1 = true := by decide +kernel
theorem vy_722 : vm_ents 202 8 vc_722 ve_722 = true := by decide +kernel
theorem vw_722 : ∀ q ∈ vk_722, vm_wt 1 q := vm_wts vm_kn (by decide +kernel)
theorem v_722 : vm_at 2 q_722 := vm_ok (inl := []) (es := ve_722) bq_202 (by decide) vw_722 vy_722 (fun i => vm_hc vx_722_0 rfl (fun h => absurd h (Nat.not_lt_zero _))) _ List.mem_cons_self
noncomputable def vp_723 : List vm_R := [(some (.inl (.ofNat 256, .ofNat 256)), va_h0)]
noncomputable def ve_723 : List vm_E := [([.inl (.ofNat 4, .ofNat 4)], va_h0, 0, [0])]
noncomputable def q_723 : vm_Q := (202, [.inl (.ofNat 4, .ofNat 4)], va_h0, vp_723)
noncomputable def vk_723 : List vm_U := []
noncomputable def vf_723 : List ((Nat → am_I) → vm_A) := [fun v => (0, [(0, .inl (.ofNat 4, .ofNat 4))], [], (80, []))]
noncomputable def vd_723_0_0 : List (List Nat) := [[0]]
noncomputable def vd_723_0 : List (List (List Nat)) := [vd_723_0_0]
noncomputable def vd_723 : List (List (List (List Nat))) := [vd_723_0]
noncomputable def vt_723 : List (List am_I) := []
noncomputable def vc_723 : vm_C := (fun _ => vp_723, fun pc => (match Nat.beq pc 0 with
  | true => [(fun _ _ => some (.inl 0), fun _ _ => some [.ofNat 0, .ofNat 1, .ofNat 2, .ofNat 3, .ofNat 4, .ofNat 5, .ofNat 6])]
  | false => []), [], 1, vm_inst 8 1 vt_723 vf_723 vd_723)
theorem vx_723_0 : vm_chk bt_202 [] vk_723 8 vc_723 0 1 = true := by decide +kernel
theorem vy_723 : vm_ents 202 8 vc_723 ve_723 = true := by decide +kernel
theorem vw_723 : ∀ q ∈ vk_723, vm_wt 1 q := vm_wts vm_kn (by decide +kernel)
theorem v_723 : vm_at 2 q_723 := vm_ok (inl := []) (es := ve_723) bq_202 (by decide) vw_723 vy_723 (fun i => vm_hc vx_723_0 rfl (fun h => absurd h (Nat.not_lt_zero _))) _ List.mem_cons_self
noncomputable def vp_724 : List vm_R := [(some (.inl (.negSucc 3, .ofNat 4)), va_h0)]
noncomputable def ve_724 : List vm_E := [([.inr (.inr (some 70)), .inl am_top, .inl am_top, .inl am_top, .inl am_top], va_h0, 0, [0, 1, 2, 3, 4, 5, 6, 7, 8, 9, 10, 11, 12, 13, 1959, 1960, 1961, 1962, 1963, 1964, 1965, 1966, 1967, 1968, 1969, 1970, 1971])]
noncomputable def q_724 : vm_Q := (208, [.inr (.inr (some 70)), .inl am_top, .inl am_top, .inl am_top, .inl am_top], va_h0, vp_724)
noncomputable def vk_724 : List vm_U := [(q_717, true, []), (q_636, true, []), (q_586, true, []), (q_568, true, []), (q_482, false, []), (q_719, true, []), (q_558, false, []), (q_718, true, []), (q_720, true, []), (q_721, true, []), (q_722, true, []), (q_723, true, [])]
noncomputable def vf_724 : List ((Nat → am_I) → vm_A) := [fun v => (0, [(0, .inr (.inr (some 70))), (1, .inl (v 0)), (2, .inl (v 1)), (3, .inl (v 2)), (4, .inl am_top)], [], (80, [])), fun v => (76, [(0, .inr (.inr (some 70))), (1, .inl (.ofNat 0, .ofNat 4)), (2, .inl (.ofNat 0, .ofNat 4)), (3, .inl (.ofNat 0, .ofNat 4)), (4, .inl am_top), (5, .inl am_top), (6, .inl (.ofNat 0, .ofNat 0))], [], (80, [])), fun v => (85, [(0, .inr (.inr (some 70))), (1, .inl (.ofNat 0, .ofNat 4)), (2, .inl (.ofNat 0, .ofNat 4)), (3, .inl (.ofNat 0, .ofNat 4)), (4, .inl am_top), (5, .inl am_top), (6, .inl (.ofNat 0, .ofNat 0)), (7, .inl (.ofNat 0, .ofNat 0))], [], (80, [])), fun v => (102, [(0, .inr (.inr (some 70))), (1, .inl (.ofNat 0, .ofNat 4)), (2, .inl (.ofNat 0, .ofNat 4)), (3, .inl (.ofNat 0, .ofNat 4)), (4, .inl am_top), (5, .inl am_top), (6, .inl (v 0)), (7, .inl (v 1)), (8, .inl (v 2))], [], (80, [])), fun v => (85, [(0, .inr (.inr (some 70))), (1, .inl (.ofNat 0, .ofNat 4)), (2, .inl (.ofNat 0, .ofNat 4)), (3, .inl (.ofNat 0, .ofNat 4)), (4, .inl am_top), (5, .inl am_top), (6, .inl (v 0)), (7, .inl (v 1)), (8, .inl am_top)], [], (80, [])), fun v => (76, [(0, .inr (.inr (some 70))), (1, .inl (.ofNat 0, .ofNat 4)), (2, .inl (.ofNat 0, .ofNat 4)), (3, .inl (.ofNat 0, .ofNat 4)), (4, .inl am_top), (5, .inl am_top), (6, .inl (v 0)), (7, .inl am_top), (8, .inl am_top)], [], (80, []))]
noncomputable def vd_724_0_0 : List (List Nat) := [[310698676526525710268891136, 311907602346140339443597312, 313116528165754968618303488, 310698694973269783978442752, 311907620792884413153148928, 313116546612499042327855104, 310698713420013857687994368, 311907639239628486862700544], [313116565059243116037406720, 310698676526807185245601792, 311907602346421814420307968, 313116528166036443595014144, 310698694973551258955153408, 20441177836300919644482772664320, 4294967297, 4294967298], [4294967299, 1208925819614633469673476, 18446744078004518917, 18446744078004518916, 18446744078004518915, 79228162532711081671548469251, 1208944266358707179225092, 1208944266358707179225091], [79229371458530696300723175427, 2417870085973336353931268, 2417870085973336353931267, 79230580384350310929897881603, 3626795905587965528637444, 3626795905587965528637443, 79231789310169925559072587779, 4835721725202594703343620], [36893488151714070533, 36893488151714070532, 36893488151714070531, 79228162551157825745258020867, 158456325065422163338801971203, 1208962713102780888776708, 1208962713102780888776707, 79229371476977440374432727043], [158457533991241777967976677379, 2417888532717410063482884, 2417888532717410063482883, 79230580402797055003607433219, 158458742917061392597151383555, 3626814352332039238189060, 3626814352332039238189059, 79231789328616669632782139395], [158459951842881007226326089731, 4835740171946668412895236, 4835740171946668412895235, 79232998254436284261956845571, 158461160768700621855500795907, 6044665991561297587601412, 6044665991561297587601411, 79234207180255898891131551747], [158462369694520236484675502083, 7253591811175926762307588, 7253591811175926762307587, 79235416106075513520306257923, 158463578620339851113850208259, 8462517630790555937013764, 8462517630790555937013763, 79236625031895128149480964099]]
noncomputable def vd_724_0_1 : List (List Nat) := [[158464787546159465743024914435, 9671443450405185111719940, 9671443450405185111719939, 79237833957714742778655670275, 158465996471979080372199620611, 10880369270019814286426116, 10880369270019814286426115, 79239042883534357407830376451], [158467205397798695001374326787, 12089295089634443461132292, 12089295089634443461132291, 79240251809353972037005082627, 158468414323618309630549032963, 13298220909249072635838468, 13298220909249072635838467, 79241460735173586666179788803], [158469623249437924259723739139, 14507146728863701810544644, 14507146728863701810544643, 79242669660993201295354494979, 158470832175257538888898445315, 15716072548478330985250820, 15716072548478330985250819, 79243878586812815924529201155], [158472041101077153518073151491, 16924998368092960159956996, 16924998368092960159956995, 79245087512632430553703907331, 158473250026896768147247857667, 18133924187707589334663172, 18133924187707589334663171, 79246296438452045182878613507], [158474458952716382776422563843, 19342850007322218509369348, 55340232225423622149, 55340232225423622148, 55340232225423622147, 79228162569604569818967572483, 158456325083868907412511522819, 237684487598133245006055473155], [1208981159846854598328324, 1208981159846854598328323, 79229371495424184448142278659, 158457534009688522041686228995, 237685696523952859635230179331, 2417906979461483773034500, 2417906979461483773034499, 79230580421243799077316984835], [158458742935508136670860935171, 237686905449772474264404885507, 3626832799076112947740676, 3626832799076112947740675, 79231789347063413706491691011, 158459951861327751300035641347, 237688114375592088893579591683, 4835758618690742122446852], [4835758618690742122446851, 79232998272883028335666397187, 158461160787147365929210347523, 237689323301411703522754297859, 6044684438305371297153028, 6044684438305371297153027, 79234207198702642964841103363, 158462369712966980558385053699]]
noncomputable def vd_724_0_2 : List (List Nat) := [[237690532227231318151929004035, 7253610257920000471859204, 7253610257920000471859203, 79235416124522257594015809539, 158463578638786595187559759875, 237691741153050932781103710211, 8462536077534629646565380, 8462536077534629646565379], [79236625050341872223190515715, 158464787564606209816734466051, 237692950078870547410278416387, 9671461897149258821271556, 9671461897149258821271555, 79237833976161486852365221891, 158465996490425824445909172227, 237694159004690162039453122563], [10880387716763887995977732, 10880387716763887995977731, 79239042901981101481539928067, 158467205416245439075083878403, 237695367930509776668627828739, 12089313536378517170683908, 12089313536378517170683907, 79240251827800716110714634243], [158468414342065053704258584579, 237696576856329391297802534915, 13298239355993146345390084, 13298239355993146345390083, 79241460753620330739889340419, 158469623267884668333433290755, 237697785782149005926977241091, 14507165175607775520096260], [14507165175607775520096259, 79242669679439945369064046595, 158470832193704282962607996931, 237698994707968620556151947267, 15716090995222404694802436, 15716090995222404694802435, 79243878605259559998238752771, 158472041119523897591782703107], [237700203633788235185326653443, 16925016814837033869508612, 16925016814837033869508611, 79245087531079174627413458947, 158473250045343512220957409283, 237701412559607849814501359619, 18133942634451663044214788, 18133942634451663044214787], [79246296456898789256588165123, 158474458971163126850132115459, 237702621485427464443676065795, 19342868454066292218920964, 19342868454066292218920963, 79247505382718403885762871299, 158475667896982741479306821635, 237703830411247079072850771971], [20551794273680921393627140, 20551794273680921393627139, 79248714308538018514937577475, 158476876822802356108481527811, 237705039337066693702025478147, 21760720093295550568333316, 21760720093295550568333315, 79249923234357633144112283651]]
noncomputable def vd_724_0_3 : List (List Nat) := [[158478085748621970737656233987, 237706248262886308331200184323, 22969645912910179743039492, 22969645912910179743039491, 79251132160177247773286989827, 158479294674441585366830940163, 237707457188705922960374890499, 24178571732524808917745668], [24178571732524808917745667, 79252341085996862402461696003, 158480503600261199996005646339, 237708666114525537589549596675, 25387497552139438092451844, 25387497552139438092451843, 79253550011816477031636402179, 158481712526080814625180352515], [237709875040345152218724302851, 26596423371754067267158020, 26596423371754067267158019, 79254758937636091660811108355, 158482921451900429254355058691, 237711083966164766847899009027, 27805349191368696441864196, 27805349191368696441864195], [79255967863455706289985814531, 158484130377720043883529764867, 237712292891984381477073715203, 29014275010983325616570372, 29014275010983325616570371, 79257176789275320919160520707, 158485339303539658512704471043, 237713501817803996106248421379], [30223200830597954791276548, 30223200830597954791276547, 79258385715094935548335226883, 158486548229359273141879177219, 237714710743623610735423127555, 31432126650212583965982724, 31432126650212583965982723, 79259594640914550177509933059], [158487757155178887771053883395, 237715919669443225364597833731, 32641052469827213140688900, 32641052469827213140688899, 79260803566734164806684639235, 158488966080998502400228589571, 237717128595262839993772539907, 33849978289441842315395076], [33849978289441842315395075, 79262012492553779435859345411, 158490175006818117029403295747, 237718337521082454622947246083, 35058904109056471490101252, 35058904109056471490101251, 79263221418373394065034051587, 158491383932637731658578001923], [237719546446902069252121952259, 36267829928671100664807428, 36267829928671100664807427, 79264430344193008694208757763, 158492592858457346287752708099, 237720755372721683881296658435, 37476755748285729839513604, 37476755748285729839513603]]
noncomputable def vd_724_0_4 : List (List Nat) := [[79265639270012623323383463939, 158493801784276960916927414275, 237721964298541298510471364611, 38685681567900359014219780, 38685681567900359014219779, 79266848195832237952558170115, 158495010710096575546102120451, 237723173224360913139646070787], [39894607387514988188925956, 39894607387514988188925955, 79268057121651852581732876291, 158496219635916190175276826627, 237724382150180527768820776963, 41103533207129617363632132, 41103533207129617363632131, 79269266047471467210907582467], [158497428561735804804451532803, 237725591076000142397995483139, 42312459026744246538338308, 42312459026744246538338307, 79270474973291081840082288643, 158498637487555419433626238979, 237726800001819757027170189315, 43521384846358875713044484], [43521384846358875713044483, 79271683899110696469256994819, 158499846413375034062800945155, 237728008927639371656344895491, 44730310665973504887750660, 44730310665973504887750659, 79272892824930311098431700995, 158501055339194648691975651331], [237729217853458986285519601667, 45939236485588134062456836, 45939236485588134062456835, 79274101750749925727606407171, 158502264265014263321150357507, 237730426779278600914694307843, 47148162305202763237163012, 47148162305202763237163011], [79275310676569540356781113347, 158503473190833877950325063683, 237731635705098215543869014019, 48357088124817392411869188, 48357088124817392411869187, 79276519602389154985955819523, 158504682116653492579499769859, 237732844630917830173043720195], [49566013944432021586575364, 49566013944432021586575363, 79277728528208769615130525699, 158505891042473107208674476035, 237734053556737444802218426371, 50774939764046650761281540, 50774939764046650761281539, 79278937454028384244305231875], [158507099968292721837849182211, 237735262482557059431393132547, 51983865583661279935987716, 51983865583661279935987715, 79280146379847998873479938051, 158508308894112336467023888387, 237736471408376674060567838723, 53192791403275909110693892]]
noncomputable def vd_724_0_5 : List (List Nat) := [[53192791403275909110693891, 79281355305667613502654644227, 158509517819931951096198594563, 237737680334196288689742544899, 54401717222890538285400068, 54401717222890538285400067, 79282564231487228131829350403, 158510726745751565725373300739], [237738889260015903318917251075, 55610643042505167460106244, 55610643042505167460106243, 79283773157306842761004056579, 158511935671571180354548006915, 237740098185835517948091957251, 56819568862119796634812420, 56819568862119796634812419], [79284982083126457390178762755, 158513144597390794983722713091, 237741307111655132577266663427, 58028494681734425809518596, 58028494681734425809518595, 79286191008946072019353468931, 158514353523210409612897419267, 237742516037474747206441369603], [59237420501349054984224772, 59237420501349054984224771, 79287399934765686648528175107, 158515562449030024242072125443, 237743724963294361835616075779, 60446346320963684158930948, 60446346320963684158930947, 79288608860585301277702881283], [158516771374849638871246831619, 237744933889113976464790781955, 61655272140578313333637124, 61655272140578313333637123, 79289817786404915906877587459, 158517980300669253500421537795, 237746142814933591093965488131, 62864197960192942508343300], [62864197960192942508343299, 79291026712224530536052293635, 158519189226488868129596243971, 237747351740753205723140194307, 64073123779807571683049476, 64073123779807571683049475, 79292235638044145165226999811, 158520398152308482758770950147], [237748560666572820352314900483, 65282049599422200857755652, 65282049599422200857755651, 79293444563863759794401705987, 158521607078128097387945656323, 237749769592392434981489606659, 66490975419036830032461828, 66490975419036830032461827], [79294653489683374423576412163, 158522816003947712017120362499, 237750978518212049610664312835, 67699901238651459207168004, 67699901238651459207168003, 79295862415502989052751118339, 158524024929767326646295068675, 237752187444031664239839019011]]
noncomputable def vd_724_0_6 : List (List Nat) := [[68908827058266088381874180, 68908827058266088381874179, 79297071341322603681925824515, 158525233855586941275469774851, 237753396369851278869013725187, 70117752877880717556580356, 70117752877880717556580355, 79298280267142218311100530691], [158526442781406555904644481027, 237754605295670893498188431363, 71326678697495346731286532, 71326678697495346731286531, 79299489192961832940275236867, 158527651707226170533819187203, 237755814221490508127363137539, 72535604517109975905992708], [72535604517109975905992707, 79300698118781447569449943043, 158528860633045785162993893379, 237757023147310122756537843715, 73744530336724605080698884, 73744530336724605080698883, 79301907044601062198624649219, 158530069558865399792168599555], [237758232073129737385712549891, 74953456156339234255405060, 74953456156339234255405059, 79303115970420676827799355395, 158531278484685014421343305731, 237759440998949352014887256067, 76162381975953863430111236, 76162381975953863430111235], [79304324896240291456974061571, 158532487410504629050518011907, 237760649924768966644061962243, 77371307795568492604817412, 73786976299133173765, 73786976299133173764, 73786976299133173763, 79228162588051313892677124099], [158456325102315651486221074435, 237684487616579989079765024771, 316912650130844326673308975107, 1208999606590928307879940, 1208999606590928307879939, 79229371513870928521851830275, 158457534028135266115395780611, 237685696542399603708939730947], [316913859056663941302483681283, 2417925426205557482586116, 2417925426205557482586115, 79230580439690543151026536451, 158458742953954880744570486787, 237686905468219218338114437123, 316915067982483555931658387459, 3626851245820186657292292], [3626851245820186657292291, 79231789365510157780201242627, 158459951879774495373745192963, 237688114394038832967289143299, 316916276908303170560833093635, 4835777065434815831998468, 4835777065434815831998467, 79232998291329772409375948803]]
noncomputable def vd_724_0_7 : List (List Nat) := [[158461160805594110002919899139, 237689323319858447596463849475, 316917485834122785190007799811, 6044702885049445006704644, 6044702885049445006704643, 79234207217149387038550654979, 158462369731413724632094605315, 237690532245678062225638555651], [316918694759942399819182505987, 7253628704664074181410820, 7253628704664074181410819, 79235416142969001667725361155, 158463578657233339261269311491, 237691741171497676854813261827, 316919903685762014448357212163, 8462554524278703356116996], [8462554524278703356116995, 79236625068788616296900067331, 158464787583052953890444017667, 237692950097317291483987968003, 316921112611581629077531918339, 9671480343893332530823172, 9671480343893332530823171, 79237833994608230926074773507], [158465996508872568519618723843, 237694159023136906113162674179, 316922321537401243706706624515, 10880406163507961705529348, 10880406163507961705529347, 79239042920427845555249479683, 158467205434692183148793430019, 237695367948956520742337380355], [316923530463220858335881330691, 12089331983122590880235524, 12089331983122590880235523, 79240251846247460184424185859, 158468414360511797777968136195, 237696576874776135371512086531, 316924739389040472965056036867, 13298257802737220054941700], [13298257802737220054941699, 79241460772067074813598892035, 158469623286331412407142842371, 237697785800595750000686792707, 316925948314860087594230743043, 14507183622351849229647876, 14507183622351849229647875, 79242669697886689442773598211], [158470832212151027036317548547, 237698994726415364629861498883, 316927157240679702223405449219, 15716109441966478404354052, 15716109441966478404354051, 79243878623706304071948304387, 158472041137970641665492254723, 237700203652234979259036205059], [316928366166499316852580155395, 16925035261581107579060228, 16925035261581107579060227, 79245087549525918701123010563, 158473250063790256294666960899, 237701412578054593888210911235, 316929575092318931481754861571, 18133961081195736753766404]]
noncomputable def vd_724_0 : List (List (List Nat)) := [vd_724_0_0, vd_724_0_1, vd_724_0_2, vd_724_0_3, vd_724_0_4, vd_724_0_5, vd_724_0_6, vd_724_0_7]
noncomputable def vd_724_1_0 : List (List Nat) := [[18133961081195736753766403, 79246296475345533330297716739, 158474458989609870923841667075, 237702621503874208517385617411, 316930784018138546110929567747, 19342886900810365928472580, 19342886900810365928472579, 79247505401165147959472422915], [158475667915429485553016373251, 237703830429693823146560323587, 316931992943958160740104273923, 20551812720424995103178756, 20551812720424995103178755, 79248714326984762588647129091, 158476876841249100182191079427, 237705039355513437775735029763], [316933201869777775369278980099, 21760738540039624277884932, 21760738540039624277884931, 79249923252804377217821835267, 158478085767068714811365785603, 237706248281333052404909735939, 316934410795597389998453686275, 22969664359654253452591108], [22969664359654253452591107, 79251132178623991846996541443, 158479294692888329440540491779, 237707457207152667034084442115, 316935619721417004627628392451, 24178590179268882627297284, 24178590179268882627297283, 79252341104443606476171247619], [158480503618707944069715197955, 237708666132972281663259148291, 316936828647236619256803098627, 25387515998883511802003460, 25387515998883511802003459, 79253550030263221105345953795, 158481712544527558698889904131, 237709875058791896292433854467], [316938037573056233885977804803, 26596441818498140976709636, 26596441818498140976709635, 79254758956082835734520659971, 158482921470347173328064610307, 237711083984611510921608560643, 316939246498875848515152510979, 27805367638112770151415812], [27805367638112770151415811, 79255967881902450363695366147, 158484130396166787957239316483, 237712292910431125550783266819, 316940455424695463144327217155, 29014293457727399326121988, 29014293457727399326121987, 79257176807722064992870072323], [158485339321986402586414022659, 237713501836250740179957972995, 316941664350515077773501923331, 30223219277342028500828164, 30223219277342028500828163, 79258385733541679622044778499, 158486548247806017215588728835, 237714710762070354809132679171]]
noncomputable def vd_724_1_1 : List (List Nat) := [[316942873276334692402676629507, 31432145096956657675534340, 31432145096956657675534339, 79259594659361294251219484675, 158487757173625631844763435011, 237715919687889969438307385347, 316944082202154307031851335683, 32641070916571286850240516], [32641070916571286850240515, 79260803585180908880394190851, 158488966099445246473938141187, 237717128613709584067482091523, 316945291127973921661026041859, 33849996736185916024946692, 33849996736185916024946691, 79262012511000523509568897027], [158490175025264861103112847363, 237718337539529198696656797699, 316946500053793536290200748035, 35058922555800545199652868, 35058922555800545199652867, 79263221436820138138743603203, 158491383951084475732287553539, 237719546465348813325831503875], [316947708979613150919375454211, 36267848375415174374359044, 36267848375415174374359043, 79264430362639752767918309379, 158492592876904090361462259715, 237720755391168427955006210051, 316948917905432765548550160387, 37476774195029803549065220], [37476774195029803549065219, 79265639288459367397093015555, 158493801802723704990636965891, 237721964316988042584180916227, 316950126831252380177724866563, 38685700014644432723771396, 38685700014644432723771395, 79266848214278982026267721731], [158495010728543319619811672067, 237723173242807657213355622403, 316951335757071994806899572739, 39894625834259061898477572, 39894625834259061898477571, 79268057140098596655442427907, 158496219654362934248986378243, 237724382168627271842530328579], [316952544682891609436074278915, 41103551653873691073183748, 41103551653873691073183747, 79269266065918211284617134083, 158497428580182548878161084419, 237725591094446886471705034755, 316953753608711224065248985091, 42312477473488320247889924], [42312477473488320247889923, 79270474991737825913791840259, 158498637506002163507335790595, 237726800020266501100879740931, 316954962534530838694423691267, 43521403293102949422596100, 43521403293102949422596099, 79271683917557440542966546435]]
noncomputable def vd_724_1_2 : List (List Nat) := [[158499846431821778136510496771, 237728008946086115730054447107, 316956171460350453323598397443, 44730329112717578597302276, 44730329112717578597302275, 79272892843377055172141252611, 158501055357641392765685202947, 237729217871905730359229153283], [316957380386170067952773103619, 45939254932332207772008452, 45939254932332207772008451, 79274101769196669801315958787, 158502264283461007394859909123, 237730426797725344988403859459, 316958589311989682581947809795, 47148180751946836946714628], [47148180751946836946714627, 79275310695016284430490664963, 158503473209280622024034615299, 237731635723544959617578565635, 316959798237809297211122515971, 48357106571561466121420804, 48357106571561466121420803, 79276519620835899059665371139], [158504682135100236653209321475, 237732844649364574246753271811, 316961007163628911840297222147, 49566032391176095296126980, 49566032391176095296126979, 79277728546655513688840077315, 158505891060919851282384027651, 237734053575184188875927977987], [316962216089448526469471928323, 50774958210790724470833156, 50774958210790724470833155, 79278937472475128318014783491, 158507099986739465911558733827, 237735262501003803505102684163, 316963425015268141098646634499, 51983884030405353645539332], [51983884030405353645539331, 79280146398294742947189489667, 158508308912559080540733440003, 237736471426823418134277390339, 316964633941087755727821340675, 53192809850019982820245508, 53192809850019982820245507, 79281355324114357576364195843], [158509517838378695169908146179, 237737680352643032763452096515, 316965842866907370356996046851, 54401735669634611994951684, 54401735669634611994951683, 79282564249933972205538902019, 158510726764198309799082852355, 237738889278462647392626802691], [316967051792726984986170753027, 55610661489249241169657860, 55610661489249241169657859, 79283773175753586834713608195, 158511935690017924428257558531, 237740098204282262021801508867, 316968260718546599615345459203, 56819587308863870344364036]]
noncomputable def vd_724_1_3 : List (List Nat) := [[56819587308863870344364035, 79284982101573201463888314371, 158513144615837539057432264707, 237741307130101876650976215043, 316969469644366214244520165379, 58028513128478499519070212, 58028513128478499519070211, 79286191027392816093063020547], [158514353541657153686606970883, 237742516055921491280150921219, 316970678570185828873694871555, 59237438948093128693776388, 59237438948093128693776387, 79287399953212430722237726723, 158515562467476768315781677059, 237743724981741105909325627395], [316971887496005443502869577731, 60446364767707757868482564, 60446364767707757868482563, 79288608879032045351412432899, 158516771393296382944956383235, 237744933907560720538500333571, 316973096421825058132044283907, 61655290587322387043188740], [61655290587322387043188739, 79289817804851659980587139075, 158517980319115997574131089411, 237746142833380335167675039747, 316974305347644672761218990083, 62864216406937016217894916, 62864216406937016217894915, 79291026730671274609761845251], [158519189244935612203305795587, 237747351759199949796849745923, 316975514273464287390393696259, 64073142226551645392601092, 64073142226551645392601091, 79292235656490889238936551427, 158520398170755226832480501763, 237748560685019564426024452099], [316976723199283902019568402435, 65282068046166274567307268, 65282068046166274567307267, 79293444582310503868111257603, 158521607096574841461655207939, 237749769610839179055199158275, 316977932125103516648743108611, 66490993865780903742013444], [66490993865780903742013443, 79294653508130118497285963779, 158522816022394456090829914115, 237750978536658793684373864451, 316979141050923131277917814787, 67699919685395532916719620, 67699919685395532916719619, 79295862433949733126460669955], [158524024948214070720004620291, 237752187462478408313548570627, 316980349976742745907092520963, 68908845505010162091425796, 68908845505010162091425795, 79297071359769347755635376131, 158525233874033685349179326467, 237753396388298022942723276803]]
noncomputable def vd_724_1_4 : List (List Nat) := [[316981558902562360536267227139, 70117771324624791266131972, 70117771324624791266131971, 79298280285588962384810082307, 158526442799853299978354032643, 237754605314117637571897982979, 316982767828381975165441933315, 71326697144239420440838148], [71326697144239420440838147, 79299489211408577013984788483, 158527651725672914607528738819, 237755814239937252201072689155, 316983976754201589794616639491, 72535622963854049615544324, 72535622963854049615544323, 79300698137228191643159494659], [158528860651492529236703444995, 237757023165756866830247395331, 316985185680021204423791345667, 73744548783468678790250500, 73744548783468678790250499, 79301907063047806272334200835, 158530069577312143865878151171, 237758232091576481459422101507], [316986394605840819052966051843, 74953474603083307964956676, 74953474603083307964956675, 79303115988867420901508907011, 158531278503131758495052857347, 237759441017396096088596807683, 316987603531660433682140758019, 76162400422697937139662852], [76162400422697937139662851, 79304324914687035530683613187, 158532487428951373124227563523, 237760649943215710717771513859, 316988812457480048311315464195, 77371326242312566314369028, 77371326242312566314369027, 79305533840506650159858319363], [158533696354770987753402269699, 237761858869035325346946220035, 316990021383299662940490170371, 78580252061927195489075204, 78580252061927195489075203, 79306742766326264789033025539, 158534905280590602382576975875, 237763067794854939976120926211], [316991230309119277569664876547, 79789177881541824663781380, 79789177881541824663781379, 79307951692145879418207731715, 158536114206410217011751682051, 237764276720674554605295632387, 316992439234938892198839582723, 80998103701156453838487556], [80998103701156453838487555, 79309160617965494047382437891, 158537323132229831640926388227, 237765485646494169234470338563, 316993648160758506828014288899, 82207029520771083013193732, 82207029520771083013193731, 79310369543785108676557144067]]
noncomputable def vd_724_1_5 : List (List Nat) := [[158538532058049446270101094403, 237766694572313783863645044739, 316994857086578121457188995075, 83415955340385712187899908, 83415955340385712187899907, 79311578469604723305731850243, 158539740983869060899275800579, 237767903498133398492819750915], [316996066012397736086363701251, 84624881160000341362606084, 84624881160000341362606083, 79312787395424337934906556419, 158540949909688675528450506755, 237769112423953013121994457091, 316997274938217350715538407427, 85833806979614970537312260], [85833806979614970537312259, 79313996321243952564081262595, 158542158835508290157625212931, 237770321349772627751169163267, 316998483864036965344713113603, 87042732799229599712018436, 87042732799229599712018435, 79315205247063567193255968771], [158543367761327904786799919107, 237771530275592242380343869443, 316999692789856579973887819779, 88251658618844228886724612, 88251658618844228886724611, 79316414172883181822430674947, 158544576687147519415974625283, 237772739201411857009518575619], [317000901715676194603062525955, 89460584438458858061430788, 89460584438458858061430787, 79317623098702796451605381123, 158545785612967134045149331459, 237773948127231471638693281795, 317002110641495809232237232131, 90669510258073487236136964], [90669510258073487236136963, 79318832024522411080780087299, 158546994538786748674324037635, 237775157053051086267867987971, 317003319567315423861411938307, 91878436077688116410843140, 91878436077688116410843139, 79320040950342025709954793475], [158548203464606363303498743811, 237776365978870700897042694147, 317004528493135038490586644483, 93087361897302745585549316, 93087361897302745585549315, 79321249876161640339129499651, 158549412390425977932673449987, 237777574904690315526217400323], [317005737418954653119761350659, 94296287716917374760255492, 94296287716917374760255491, 79322458801981254968304205827, 158550621316245592561848156163, 237778783830509930155392106499, 317006946344774267748936056835, 95505213536532003934961668]]
noncomputable def vd_724_1_6 : List (List Nat) := [[95505213536532003934961667, 79323667727800869597478912003, 158551830242065207191022862339, 237779992756329544784566812675, 317008155270593882378110763011, 96714139356146633109667844, 96714139356146633109667843, 79324876653620484226653618179], [158553039167884821820197568515, 237781201682149159413741518851, 317009364196413497007285469187, 97923065175761262284374020, 97923065175761262284374019, 79326085579440098855828324355, 158554248093704436449372274691, 237782410607968774042916225027], [317010573122233111636460175363, 99131990995375891459080196, 99131990995375891459080195, 79327294505259713485003030531, 158555457019524051078546980867, 237783619533788388672090931203, 317011782048052726265634881539, 100340916814990520633786372], [100340916814990520633786371, 79328503431079328114177736707, 158556665945343665707721687043, 237784828459608003301265637379, 317012990973872340894809587715, 101549842634605149808492548, 101549842634605149808492547, 79329712356898942743352442883], [158557874871163280336896393219, 237786037385427617930440343555, 317014199899691955523984293891, 102758768454219778983198724, 102758768454219778983198723, 79330921282718557372527149059, 158559083796982894966071099395, 237787246311247232559615049731], [317015408825511570153159000067, 103967694273834408157904900, 103967694273834408157904899, 79332130208538172001701855235, 158560292722802509595245805571, 237788455237066847188789755907, 317016617751331184782333706243, 105176620093449037332611076], [105176620093449037332611075, 79333339134357786630876561411, 158561501648622124224420511747, 237789664162886461817964462083, 317017826677150799411508412419, 106385545913063666507317252, 106385545913063666507317251, 79334548060177401260051267587], [158562710574441738853595217923, 237790873088706076447139168259, 317019035602970414040683118595, 107594471732678295682023428, 107594471732678295682023427, 79335756985997015889225973763, 158563919500261353482769924099, 237792082014525691076313874435]]
noncomputable def vd_724_1_7 : List (List Nat) := [[317020244528790028669857824771, 108803397552292924856729604, 108803397552292924856729603, 79336965911816630518400679939, 158565128426080968111944630275, 237793290940345305705488580611, 317021453454609643299032530947, 110012323371907554031435780], [110012323371907554031435779, 79338174837636245147575386115, 158566337351900582741119336451, 237794499866164920334663286787, 317022662380429257928207237123, 111221249191522183206141956, 111221249191522183206141955, 79339383763455859776750092291], [158567546277720197370294042627, 237795708791984534963837992963, 317023871306248872557381943299, 112430175011136812380848132, 112430175011136812380848131, 79340592689275474405924798467, 158568755203539811999468748803, 237796917717804149593012699139], [317025080232068487186556649475, 113639100830751441555554308, 113639100830751441555554307, 79341801615095089035099504643, 158569964129359426628643454979, 237798126643623764222187405315, 317026289157888101815731355651, 114848026650366070730260484], [114848026650366070730260483, 79343010540914703664274210819, 158571173055179041257818161155, 237799335569443378851362111491, 317027498083707716444906061827, 116056952469980699904966660, 116056952469980699904966659, 79344219466734318293448916995], [158572381980998655886992867331, 237800544495262993480536817667, 317028707009527331074080768003, 117265878289595329079672836, 117265878289595329079672835, 79345428392553932922623623171, 158573590906818270516167573507, 237801753421082608109711523843], [317029915935346945703255474179, 118474804109209958254379012, 118474804109209958254379011, 79346637318373547551798329347, 158574799832637885145342279683, 237802962346902222738886230019, 317031124861166560332430180355, 119683729928824587429085188], [119683729928824587429085187, 79347846244193162180973035523, 158576008758457499774516985859, 237804171272721837368060936195, 317032333786986174961604886531, 120892655748439216603791364, 120892655748439216603791363, 79349055170012776810147741699]]
noncomputable def vd_724_1 : List (List (List Nat)) := [vd_724_1_0, vd_724_1_1, vd_724_1_2, vd_724_1_3, vd_724_1_4, vd_724_1_5, vd_724_1_6, vd_724_1_7]
noncomputable def vd_724_2_0 : List (List Nat) := [[158577217684277114403691692035, 237805380198541451997235642371, 317033542712805789590779592707, 122101581568053845778497540, 122101581568053845778497539, 79350264095832391439322447875, 158578426610096729032866398211, 237806589124361066626410348547], [317034751638625404219954298883, 123310507387668474953203716, 123310507387668474953203715, 79351473021652006068497154051, 158579635535916343662041104387, 237807798050180681255585054723, 317035960564445018849129005059, 124519433207283104127909892], [124519433207283104127909891, 79352681947471620697671860227, 158580844461735958291215810563, 237809006976000295884759760899, 317037169490264633478303711235, 125728359026897733302616068, 125728359026897733302616067, 79353890873291235326846566403], [158582053387555572920390516739, 237810215901819910513934467075, 317038378416084248107478417411, 126937284846512362477322244, 126937284846512362477322243, 79355099799110849956021272579, 158583262313375187549565222915, 237811424827639525143109173251], [317039587341903862736653123587, 128146210666126991652028420, 128146210666126991652028419, 79356308724930464585195978755, 158584471239194802178739929091, 237812633753459139772283879427, 317040796267723477365827829763, 129355136485741620826734596], [129355136485741620826734595, 79357517650750079214370684931, 158585680165014416807914635267, 237813842679278754401458585603, 317042005193543091995002535939, 130564062305356250001440772, 130564062305356250001440771, 79358726576569693843545391107], [158586889090834031437089341443, 237815051605098369030633291779, 317043214119362706624177242115, 131772988124970879176146948, 131772988124970879176146947, 79359935502389308472720097283, 158588098016653646066264047619, 237816260530917983659807997955], [317044423045182321253351948291, 132981913944585508350853124, 132981913944585508350853123, 79361144428208923101894803459, 158589306942473260695438753795, 237817469456737598288982704131, 317045631971001935882526654467, 134190839764200137525559300]]
noncomputable def vd_724_2_1 : List (List Nat) := [[134190839764200137525559299, 79362353354028537731069509635, 158590515868292875324613459971, 237818678382557212918157410307, 317046840896821550511701360643, 135399765583814766700265476, 135399765583814766700265475, 79363562279848152360244215811], [158591724794112489953788166147, 237819887308376827547332116483, 317048049822641165140876066819, 136608691403429395874971652, 136608691403429395874971651, 79364771205667766989418921987, 158592933719932104582962872323, 237821096234196442176506822659], [317049258748460779770050772995, 137817617223044025049677828, 137817617223044025049677827, 79365980131487381618593628163, 158594142645751719212137578499, 237822305160016056805681528835, 317050467674280394399225479171, 139026543042658654224384004], [139026543042658654224384003, 79367189057306996247768334339, 158595351571571333841312284675, 237823514085835671434856235011, 317051676600100009028400185347, 140235468862273283399090180, 140235468862273283399090179, 79368397983126610876943040515], [158596560497390948470486990851, 237824723011655286064030941187, 317052885525919623657574891523, 141444394681887912573796356, 141444394681887912573796355, 79369606908946225506117746691, 158597769423210563099661697027, 237825931937474900693205647363], [317054094451739238286749597699, 142653320501502541748502532, 142653320501502541748502531, 79370815834765840135292452867, 158598978349030177728836403203, 237827140863294515322380353539, 317055303377558852915924303875, 143862246321117170923208708], [143862246321117170923208707, 79372024760585454764467159043, 158600187274849792358011109379, 237828349789114129951555059715, 317056512303378467545099010051, 145071172140731800097914884, 145071172140731800097914883, 79373233686405069393641865219], [158601396200669406987185815555, 237829558714933744580729765891, 317057721229198082174273716227, 146280097960346429272621060, 146280097960346429272621059, 79374442612224684022816571395, 158602605126489021616360521731, 237830767640753359209904472067]]
noncomputable def vd_724_2_2 : List (List Nat) := [[317058930155017696803448422403, 147489023779961058447327236, 147489023779961058447327235, 79375651538044298651991277571, 158603814052308636245535227907, 237831976566572973839079178243, 317060139080837311432623128579, 148697949599575687622033412], [148697949599575687622033411, 79376860463863913281165983747, 158605022978128250874709934083, 237833185492392588468253884419, 317061348006656926061797834755, 149906875419190316796739588, 149906875419190316796739587, 79378069389683527910340689923], [158606231903947865503884640259, 237834394418212203097428590595, 317062556932476540690972540931, 151115801238804945971445764, 151115801238804945971445763, 79379278315503142539515396099, 158607440829767480133059346435, 237835603344031817726603296771], [317063765858296155320147247107, 152324727058419575146151940, 152324727058419575146151939, 79380487241322757168690102275, 158608649755587094762234052611, 237836812269851432355778002947, 317064974784115769949321953283, 153533652878034204320858116], [153533652878034204320858115, 79381696167142371797864808451, 158609858681406709391408758787, 237838021195671046984952709123, 317066183709935384578496659459, 154742578697648833495564292, 154742578697648833495564291, 79382905092961986427039514627], [158611067607226324020583464963, 237839230121490661614127415299, 317067392635754999207671365635, 155951504517263462670270468, 155951504517263462670270467, 79384114018781601056214220803, 158612276533045938649758171139, 237840439047310276243302121475], [317068601561574613836846071811, 157160430336878091844976644, 157160430336878091844976643, 79385322944601215685388926979, 158613485458865553278932877315, 237841647973129890872476827651, 317069810487394228466020777987, 158369356156492721019682820], [158369356156492721019682819, 79386531870420830314563633155, 158614694384685167908107583491, 237842856898949505501651533827, 317071019413213843095195484163, 159578281976107350194388996, 159578281976107350194388995, 79387740796240444943738339331]]
noncomputable def vd_724_2_3 : List (List Nat) := [[158615903310504782537282289667, 237844065824769120130826240003, 317072228339033457724370190339, 160787207795721979369095172, 160787207795721979369095171, 79388949722060059572913045507, 158617112236324397166456995843, 237845274750588734760000946179], [317073437264853072353544896515, 161996133615336608543801348, 161996133615336608543801347, 79390158647879674202087751683, 158618321162144011795631702019, 237846483676408349389175652355, 317074646190672686982719602691, 163205059434951237718507524], [163205059434951237718507523, 79391367573699288831262457859, 158619530087963626424806408195, 237847692602227964018350358531, 317075855116492301611894308867, 164413985254565866893213700, 164413985254565866893213699, 79392576499518903460437164035], [158620739013783241053981114371, 237848901528047578647525064707, 317077064042311916241069015043, 165622911074180496067919876, 165622911074180496067919875, 79393785425338518089611870211, 158621947939602855683155820547, 237850110453867193276699770883], [317078272968131530870243721219, 166831836893795125242626052, 166831836893795125242626051, 79394994351158132718786576387, 158623156865422470312330526723, 237851319379686807905874477059, 317079481893951145499418427395, 168040762713409754417332228], [168040762713409754417332227, 79396203276977747347961282563, 158624365791242084941505232899, 237852528305506422535049183235, 317080690819770760128593133571, 169249688533024383592038404, 169249688533024383592038403, 79397412202797361977135988739], [158625574717061699570679939075, 237853737231326037164223889411, 317081899745590374757767839747, 170458614352639012766744580, 170458614352639012766744579, 79398621128616976606310694915, 158626783642881314199854645251, 237854946157145651793398595587], [317083108671409989386942545923, 171667540172253641941450756, 171667540172253641941450755, 79399830054436591235485401091, 158627992568700928829029351427, 237856155082965266422573301763, 317084317597229604016117252099, 172876465991868271116156932]]
noncomputable def vd_724_2_4 : List (List Nat) := [[172876465991868271116156931, 79401038980256205864660107267, 158629201494520543458204057603, 237857364008784881051748007939, 317085526523049218645291958275, 174085391811482900290863108, 174085391811482900290863107, 79402247906075820493834813443], [158630410420340158087378763779, 237858572934604495680922714115, 317086735448868833274466664451, 175294317631097529465569284, 175294317631097529465569283, 79403456831895435123009519619, 158631619346159772716553469955, 237859781860424110310097420291], [317087944374688447903641370627, 176503243450712158640275460, 176503243450712158640275459, 79404665757715049752184225795, 158632828271979387345728176131, 237860990786243724939272126467, 317089153300508062532816076803, 177712169270326787814981636], [177712169270326787814981635, 79405874683534664381358931971, 158634037197799001974902882307, 237862199712063339568446832643, 317090362226327677161990782979, 178921095089941416989687812, 178921095089941416989687811, 79407083609354279010533638147], [158635246123618616604077588483, 237863408637882954197621538819, 317091571152147291791165489155, 180130020909556046164393988, 180130020909556046164393987, 79408292535173893639708344323, 158636455049438231233252294659, 237864617563702568826796244995], [317092780077966906420340195331, 181338946729170675339100164, 181338946729170675339100163, 79409501460993508268883050499, 158637663975257845862427000835, 237865826489522183455970951171, 317093989003786521049514901507, 182547872548785304513806340], [182547872548785304513806339, 79410710386813122898057756675, 158638872901077460491601707011, 237867035415341798085145657347, 317095197929606135678689607683, 183756798368399933688512516, 183756798368399933688512515, 79411919312632737527232462851], [158640081826897075120776413187, 237868244341161412714320363523, 317096406855425750307864313859, 184965724188014562863218692, 184965724188014562863218691, 79413128238452352156407169027, 158641290752716689749951119363, 237869453266981027343495069699]]
noncomputable def vd_724_2_5 : List (List Nat) := [[317097615781245364937039020035, 186174650007629192037924868, 186174650007629192037924867, 79414337164271966785581875203, 158642499678536304379125825539, 237870662192800641972669775875, 317098824707064979566213726211, 187383575827243821212631044], [187383575827243821212631043, 79415546090091581414756581379, 158643708604355919008300531715, 237871871118620256601844482051, 317100033632884594195388432387, 188592501646858450387337220, 188592501646858450387337219, 79416755015911196043931287555], [158644917530175533637475237891, 237873080044439871231019188227, 317101242558704208824563138563, 189801427466473079562043396, 189801427466473079562043395, 79417963941730810673105993731, 158646126455995148266649944067, 237874288970259485860193894403], [317102451484523823453737844739, 191010353286087708736749572, 191010353286087708736749571, 79419172867550425302280699907, 158647335381814762895824650243, 237875497896079100489368600579, 317103660410343438082912550915, 192219279105702337911455748], [192219279105702337911455747, 79420381793370039931455406083, 158648544307634377524999356419, 237876706821898715118543306755, 317104869336163052712087257091, 193428204925316967086161924, 193428204925316967086161923, 79421590719189654560630112259], [158649753233453992154174062595, 237877915747718329747718012931, 317106078261982667341261963267, 194637130744931596260868100, 194637130744931596260868099, 79422799645009269189804818435, 158650962159273606783348768771, 237879124673537944376892719107], [317107287187802281970436669443, 195846056564546225435574276, 195846056564546225435574275, 79424008570828883818979524611, 158652171085093221412523474947, 237880333599357559006067425283, 317108496113621896599611375619, 197054982384160854610280452], [197054982384160854610280451, 79425217496648498448154230787, 158653380010912836041698181123, 237881542525177173635242131459, 317109705039441511228786081795, 198263908203775483784986628, 198263908203775483784986627, 79426426422468113077328936963]]
noncomputable def vd_724_2_6 : List (List Nat) := [[158654588936732450670872887299, 237882751450996788264416837635, 317110913965261125857960787971, 199472834023390112959692804, 199472834023390112959692803, 79427635348287727706503643139, 158655797862552065300047593475, 237883960376816402893591543811], [317112122891080740487135494147, 200681759843004742134398980, 200681759843004742134398979, 79428844274107342335678349315, 158657006788371679929222299651, 237885169302636017522766249987, 317113331816900355116310200323, 201890685662619371309105156], [201890685662619371309105155, 79430053199926956964853055491, 158658215714191294558397005827, 237886378228455632151940956163, 317114540742719969745484906499, 203099611482234000483811332, 203099611482234000483811331, 79431262125746571594027761667], [158659424640010909187571712003, 237887587154275246781115662339, 317115749668539584374659612675, 204308537301848629658517508, 204308537301848629658517507, 79432471051566186223202467843, 158660633565830523816746418179, 237888796080094861410290368515], [317116958594359199003834318851, 205517463121463258833223684, 205517463121463258833223683, 79433679977385800852377174019, 158661842491650138445921124355, 237890005005914476039465074691, 317118167520178813633009025027, 206726388941077888007929860], [206726388941077888007929859, 79434888903205415481551880195, 158663051417469753075095830531, 237891213931734090668639780867, 317119376445998428262183731203, 207935314760692517182636036, 207935314760692517182636035, 79436097829025030110726586371], [158664260343289367704270536707, 237892422857553705297814487043, 317120585371818042891358437379, 209144240580307146357342212, 209144240580307146357342211, 79437306754844644739901292547, 158665469269108982333445242883, 237893631783373319926989193219], [317121794297637657520533143555, 210353166399921775532048388, 210353166399921775532048387, 79438515680664259369075998723, 158666678194928596962619949059, 237894840709192934556163899395, 317123003223457272149707849731, 211562092219536404706754564]]
noncomputable def vd_724_2_7 : List (List Nat) := [[211562092219536404706754563, 79439724606483873998250704899, 158667887120748211591794655235, 237896049635012549185338605571, 317124212149276886778882555907, 212771018039151033881460740, 212771018039151033881460739, 79440933532303488627425411075], [158669096046567826220969361411, 237897258560832163814513311747, 317125421075096501408057262083, 213979943858765663056166916, 213979943858765663056166915, 79442142458123103256600117251, 158670304972387440850144067587, 237898467486651778443688017923], [317126630000916116037231968259, 215188869678380292230873092, 215188869678380292230873091, 79443351383942717885774823427, 158671513898207055479318773763, 237899676412471393072862724099, 317127838926735730666406674435, 216397795497994921405579268], [216397795497994921405579267, 79444560309762332514949529603, 158672722824026670108493479939, 237900885338291007702037430275, 317129047852555345295581380611, 217606721317609550580285444, 217606721317609550580285443, 79445769235581947144124235779], [158673931749846284737668186115, 237902094264110622331212136451, 317130256778374959924756086787, 218815647137224179754991620, 218815647137224179754991619, 79446978161401561773298941955, 158675140675665899366842892291, 237903303189930236960386842627], [317131465704194574553930792963, 220024572956838808929697796, 220024572956838808929697795, 79448187087221176402473648131, 158676349601485513996017598467, 237904512115749851589561548803, 317132674630014189183105499139, 221233498776453438104403972], [221233498776453438104403971, 79449396013040791031648354307, 158677558527305128625192304643, 237905721041569466218736254979, 317133883555833803812280205315, 222442424596068067279110148, 222442424596068067279110147, 79450604938860405660823060483], [158678767453124743254367010819, 237906929967389080847910961155, 317135092481653418441454911491, 223651350415682696453816324, 223651350415682696453816323, 79451813864680020289997766659, 158679976378944357883541716995, 237908138893208695477085667331]]
noncomputable def vd_724_2 : List (List (List Nat)) := [vd_724_2_0, vd_724_2_1, vd_724_2_2, vd_724_2_3, vd_724_2_4, vd_724_2_5, vd_724_2_6, vd_724_2_7]
noncomputable def vd_724_3_0 : List (List Nat) := [[317136301407473033070629617667, 224860276235297325628522500, 224860276235297325628522499, 79453022790499634919172472835, 158681185304763972512716423171, 237909347819028310106260373507, 317137510333292647699804323843, 226069202054911954803228676], [226069202054911954803228675, 79454231716319249548347179011, 158682394230583587141891129347, 237910556744847924735435079683, 317138719259112262328979030019, 227278127874526583977934852, 227278127874526583977934851, 79455440642138864177521885187], [158683603156403201771065835523, 237911765670667539364609785859, 317139928184931876958153736195, 228487053694141213152641028, 228487053694141213152641027, 79456649567958478806696591363, 158684812082222816400240541699, 237912974596487153993784492035], [317141137110751491587328442371, 229695979513755842327347204, 229695979513755842327347203, 79457858493778093435871297539, 158686021008042431029415247875, 237914183522306768622959198211, 317142346036571106216503148547, 230904905333370471502053380], [230904905333370471502053379, 79459067419597708065046003715, 158687229933862045658589954051, 237915392448126383252133904387, 317143554962390720845677854723, 232113831152985100676759556, 232113831152985100676759555, 79460276345417322694220709891], [158688438859681660287764660227, 237916601373945997881308610563, 317144763888210335474852560899, 233322756972599729851465732, 233322756972599729851465731, 79461485271236937323395416067, 158689647785501274916939366403, 237917810299765612510483316739], [317145972814029950104027267075, 234531682792214359026171908, 234531682792214359026171907, 79462694197056551952570122243, 158690856711320889546114072579, 237919019225585227139658022915, 317147181739849564733201973251, 235740608611828988200878084], [235740608611828988200878083, 79463903122876166581744828419, 158692065637140504175288778755, 237920228151404841768832729091, 317148390665669179362376679427, 236949534431443617375584260, 236949534431443617375584259, 79465112048695781210919534595]]
noncomputable def vd_724_3_1 : List (List Nat) := [[158693274562960118804463484931, 237921437077224456398007435267, 317149599591488793991551385603, 238158460251058246550290436, 238158460251058246550290435, 79466320974515395840094240771, 158694483488779733433638191107, 237922646003044071027182141443], [317150808517308408620726091779, 239367386070672875724996612, 239367386070672875724996611, 79467529900335010469268946947, 158695692414599348062812897283, 237923854928863685656356847619, 317152017443128023249900797955, 240576311890287504899702788], [240576311890287504899702787, 79468738826154625098443653123, 158696901340418962691987603459, 237925063854683300285531553795, 317153226368947637879075504131, 241785237709902134074408964, 241785237709902134074408963, 79469947751974239727618359299], [158698110266238577321162309635, 237926272780502914914706259971, 317154435294767252508250210307, 242994163529516763249115140, 242994163529516763249115139, 79471156677793854356793065475, 158699319192058191950337015811, 237927481706322529543880966147], [317155644220586867137424916483, 244203089349131392423821316, 244203089349131392423821315, 79472365603613468985967771651, 158700528117877806579511721987, 237928690632142144173055672323, 317156853146406481766599622659, 245412015168746021598527492], [245412015168746021598527491, 79473574529433083615142477827, 158701737043697421208686428163, 237929899557961758802230378499, 317158062072226096395774328835, 246620940988360650773233668, 246620940988360650773233667, 79474783455252698244317184003], [158702945969517035837861134339, 237931108483781373431405084675, 317159270998045711024949035011, 247829866807975279947939844, 247829866807975279947939843, 79475992381072312873491890179, 158704154895336650467035840515, 237932317409600988060579790851], [317160479923865325654123741187, 249038792627589909122646020, 249038792627589909122646019, 79477201306891927502666596355, 158705363821156265096210546691, 237933526335420602689754497027, 317161688849684940283298447363, 250247718447204538297352196]]
noncomputable def vd_724_3_2 : List (List Nat) := [[250247718447204538297352195, 79478410232711542131841302531, 158706572746975879725385252867, 237934735261240217318929203203, 317162897775504554912473153539, 251456644266819167472058372, 251456644266819167472058371, 79479619158531156761016008707], [158707781672795494354559959043, 237935944187059831948103909379, 317164106701324169541647859715, 252665570086433796646764548, 252665570086433796646764547, 79480828084350771390190714883, 158708990598615108983734665219, 237937153112879446577278615555], [317165315627143784170822565891, 253874495906048425821470724, 253874495906048425821470723, 79482037010170386019365421059, 158710199524434723612909371395, 237938362038699061206453321731, 317166524552963398799997272067, 255083421725663054996176900], [255083421725663054996176899, 79483245935990000648540127235, 158711408450254338242084077571, 237939570964518675835628027907, 317167733478783013429171978243, 256292347545277684170883076, 256292347545277684170883075, 79484454861809615277714833411], [158712617376073952871258783747, 237940779890338290464802734083, 317168942404602628058346684419, 257501273364892313345589252, 257501273364892313345589251, 79485663787629229906889539587, 158713826301893567500433489923, 237941988816157905093977440259], [317170151330422242687521390595, 258710199184506942520295428, 258710199184506942520295427, 79486872713448844536064245763, 158715035227713182129608196099, 237943197741977519723152146435, 317171360256241857316696096771, 259919125004121571695001604], [259919125004121571695001603, 79488081639268459165238951939, 158716244153532796758782902275, 237944406667797134352326852611, 317172569182061471945870802947, 261128050823736200869707780, 261128050823736200869707779, 79489290565088073794413658115], [158717453079352411387957608451, 237945615593616748981501558787, 317173778107881086575045509123, 262336976643350830044413956, 262336976643350830044413955, 79490499490907688423588364291, 158718662005172026017132314627, 237946824519436363610676264963]]
noncomputable def vd_724_3_3 : List (List Nat) := [[317174987033700701204220215299, 263545902462965459219120132, 263545902462965459219120131, 79491708416727303052763070467, 158719870930991640646307020803, 237948033445255978239850971139, 317176195959520315833394921475, 264754828282580088393826308], [264754828282580088393826307, 79492917342546917681937776643, 158721079856811255275481726979, 237949242371075592869025677315, 317177404885339930462569627651, 265963754102194717568532484, 265963754102194717568532483, 79494126268366532311112482819], [158722288782630869904656433155, 237950451296895207498200383491, 317178613811159545091744333827, 267172679921809346743238660, 267172679921809346743238659, 79495335194186146940287188995, 158723497708450484533831139331, 237951660222714822127375089667], [317179822736979159720919040003, 268381605741423975917944836, 268381605741423975917944835, 79496544120005761569461895171, 158724706634270099163005845507, 237952869148534436756549795843, 317181031662798774350093746179, 269590531561038605092651012], [269590531561038605092651011, 79497753045825376198636601347, 158725915560089713792180551683, 237954078074354051385724502019, 317182240588618388979268452355, 270799457380653234267357188, 270799457380653234267357187, 79498961971644990827811307523], [158727124485909328421355257859, 237955287000173666014899208195, 317183449514438003608443158531, 272008383200267863442063364, 272008383200267863442063363, 79500170897464605456986013699, 158728333411728943050529964035, 237956495925993280644073914371], [317184658440257618237617864707, 273217309019882492616769540, 273217309019882492616769539, 79501379823284220086160719875, 158729542337548557679704670211, 237957704851812895273248620547, 317185867366077232866792570883, 274426234839497121791475716], [274426234839497121791475715, 79502588749103834715335426051, 158730751263368172308879376387, 237958913777632509902423326723, 317187076291896847495967277059, 275635160659111750966181892, 275635160659111750966181891, 79503797674923449344510132227]]
noncomputable def vd_724_3_4 : List (List Nat) := [[158731960189187786938054082563, 237960122703452124531598032899, 317188285217716462125141983235, 276844086478726380140888068, 276844086478726380140888067, 79505006600743063973684838403, 158733169115007401567228788739, 237961331629271739160772739075], [317189494143536076754316689411, 278053012298341009315594244, 278053012298341009315594243, 79506215526562678602859544579, 158734378040827016196403494915, 237962540555091353789947445251, 317190703069355691383491395587, 279261938117955638490300420], [279261938117955638490300419, 79507424452382293232034250755, 158735586966646630825578201091, 237963749480910968419122151427, 317191911995175306012666101763, 280470863937570267665006596, 280470863937570267665006595, 79508633378201907861208956931], [158736795892466245454752907267, 237964958406730583048296857603, 317193120920994920641840807939, 281679789757184896839712772, 281679789757184896839712771, 79509842304021522490383663107, 158738004818285860083927613443, 237966167332550197677471563779], [317194329846814535271015514115, 282888715576799526014418948, 282888715576799526014418947, 79511051229841137119558369283, 158739213744105474713102319619, 237967376258369812306646269955, 317195538772634149900190220291, 284097641396414155189125124], [284097641396414155189125123, 79512260155660751748733075459, 158740422669925089342277025795, 237968585184189426935820976131, 317196747698453764529364926467, 285306567216028784363831300, 285306567216028784363831299, 79513469081480366377907781635], [158741631595744703971451731971, 237969794110009041564995682307, 317197956624273379158539632643, 286515493035643413538537476, 286515493035643413538537475, 79514678007299981007082487811, 158742840521564318600626438147, 237971003035828656194170388483], [317199165550092993787714338819, 287724418855258042713243652, 287724418855258042713243651, 79515886933119595636257193987, 158744049447383933229801144323, 237972211961648270823345094659, 317200374475912608416889044995, 288933344674872671887949828]]
noncomputable def vd_724_3_5 : List (List Nat) := [[288933344674872671887949827, 79517095858939210265431900163, 158745258373203547858975850499, 237973420887467885452519800835, 317201583401732223046063751171, 290142270494487301062656004, 290142270494487301062656003, 79518304784758824894606606339], [158746467299023162488150556675, 237974629813287500081694507011, 317202792327551837675238457347, 291351196314101930237362180, 291351196314101930237362179, 79519513710578439523781312515, 158747676224842777117325262851, 237975838739107114710869213187], [317204001253371452304413163523, 292560122133716559412068356, 292560122133716559412068355, 79520722636398054152956018691, 158748885150662391746499969027, 237977047664926729340043919363, 317205210179191066933587869699, 293769047953331188586774532], [293769047953331188586774531, 79521931562217668782130724867, 158750094076482006375674675203, 237978256590746343969218625539, 317206419105010681562762575875, 294977973772945817761480708, 294977973772945817761480707, 79523140488037283411305431043], [158751303002301621004849381379, 237979465516565958598393331715, 317207628030830296191937282051, 296186899592560446936186884, 296186899592560446936186883, 79524349413856898040480137219, 158752511928121235634024087555, 237980674442385573227568037891], [317208836956649910821111988227, 297395825412175076110893060, 297395825412175076110893059, 79525558339676512669654843395, 158753720853940850263198793731, 237981883368205187856742744067, 317210045882469525450286694403, 298604751231789705285599236], [298604751231789705285599235, 79526767265496127298829549571, 158754929779760464892373499907, 237983092294024802485917450243, 317211254808289140079461400579, 299813677051404334460305412, 299813677051404334460305411, 79527976191315741928004255747], [158756138705580079521548206083, 237984301219844417115092156419, 317212463734108754708636106755, 301022602871018963635011588, 301022602871018963635011587, 79529185117135356557178961923, 158757347631399694150722912259, 237985510145664031744266862595]]
noncomputable def vd_724_3_6 : List (List Nat) := [[317213672659928369337810812931, 302231528690633592809717764, 302231528690633592809717763, 79530394042954971186353668099, 158758556557219308779897618435, 237986719071483646373441568771, 317214881585747983966985519107, 303440454510248221984423940], [303440454510248221984423939, 79531602968774585815528374275, 158759765483038923409072324611, 237987927997303261002616274947, 317216090511567598596160225283, 304649380329862851159130116, 304649380329862851159130115, 79532811894594200444703080451], [158760974408858538038247030787, 237989136923122875631790981123, 317217299437387213225334931459, 305858306149477480333836292, 305858306149477480333836291, 79534020820413815073877786627, 158762183334678152667421736963, 237990345848942490260965687299], [317218508363206827854509637635, 307067231969092109508542468, 307067231969092109508542467, 79535229746233429703052492803, 158763392260497767296596443139, 237991554774762104890140393475, 317219717289026442483684343811, 308276157788706738683248644], [308276157788706738683248643, 79536438672053044332227198979, 158764601186317381925771149315, 237992763700581719519315099651, 317220926214846057112859049987, 309485083608321367857954820, 1407374883553285, 313116546612780517304565760], [310698713420295332664705024, 311907639239909961839411200, 313116565059524591014117376, 310698676527088660222312448, 311907602346703289397018624, 313116528166317918571724800, 310698694973832733931864064, 311907620793447363106570240], [313116546613061992281276416, 310698713420576807641415680, 311907639240191436816121856, 313116565059806065990828032]]
noncomputable def vd_724_3 : List (List (List Nat)) := [vd_724_3_0, vd_724_3_1, vd_724_3_2, vd_724_3_3, vd_724_3_4, vd_724_3_5, vd_724_3_6]
noncomputable def vd_724 : List (List (List (List Nat))) := [vd_724_0, vd_724_1, vd_724_2, vd_724_3]
noncomputable def vt_724 : List (List am_I) := [[(.ofNat 5, .ofNat 2147483647), (.ofNat 0, .ofNat 4), (.negSucc 2147483647, .negSucc 0)]]
noncomputable def vc_724 : vm_C := (fun _ => vp_724, fun pc => (match Nat.beq pc 0 with
  | true => [(fun _ _ => some (.inl 1), fun _ _ => some [.ofNat 0, .ofNat 5]), (fun _ _ => some (.inl 2), fun _ _ => some [.ofNat 0, .ofNat 5]), (fun _ _ => some (.inl 3), fun _ _ => some [.ofNat 0, .ofNat 5])]
  | false => []), [76, 85, 102], 1972, vm_inst 16 257 vt_724 vf_724 vd_724)
theorem vx_724_0 : vm_chk bt_208 [] vk_724 39 vc_724 0 8 = true := by decide +kernel
theorem vx_724_1 : vm_chk bt_208 [] vk_724 39 vc_724 8 6 = true := by decide +kernel
theorem vx_724_2 : vm_chk bt_208 [] vk_724 39 vc_724 14 11 = true := by decide +kernel
theorem vx_724_3 : vm_chk bt_208 [] vk_724 39 vc_724 25 10 = true := by decide +kernel
theorem vx_724_4 : vm_chk bt_208 [] vk_724 39 vc_724 35 9 = true := by decide +kernel
theorem vx_724_5 : vm_chk bt_208 [] vk_724 39 vc_724 44 9 = true := by decide +kernel
theorem vx_724_6 : vm_chk bt_208 [] vk_724 39 vc_724 53 9 = true := by decide +kernel
theorem vx_724_7 : vm_chk bt_208 [] vk_724 39 vc_724 62 9 = true := by decide +kernel
theorem vx_724_8 : vm_chk bt_208 [] vk_724 39 vc_724 71 9 = true := by decide +kernel
theorem vx_724_9 : vm_chk bt_208 [] vk_724 39 vc_724 80 9 = true := by decide +kernel
theorem vx_724_10 : vm_chk bt_208 [] vk_724 39 vc_724 89 9 = true := by decide +kernel
theorem vx_724_11 : vm_chk bt_208 [] vk_724 39 vc_724 98 10 = true := by decide +kernel
theorem vx_724_12 : vm_chk bt_208 [] vk_724 39 vc_724 108 9 = true := by decide +kernel
theorem vx_724_13 : vm_chk bt_208 [] vk_724 39 vc_724 117 9 = true := by decide +kernel
theorem vx_724_14 : vm_chk bt_208 [] vk_724 39 vc_724 126 8 = true := by decide +kernel
theorem vx_724_15 : vm_chk bt_208 [] vk_724 39 vc_724 134 9 = true := by decide +kernel
theorem vx_724_16 : vm_chk bt_208 [] vk_724 39 vc_724 143 9 = true := by decide +kernel
theorem vx_724_17 : vm_chk bt_208 [] vk_724 39 vc_724 152 9 = true := by decide +kernel
theorem vx_724_18 : vm_chk bt_208 [] vk_724 39 vc_724 161 8 = true := by decide +kernel
theorem vx_724_19 : vm_chk bt_208 [] vk_724 39 vc_724 169 9 = true := by decide +kernel
theorem vx_724_20 : vm_chk bt_208 [] vk_724 39 vc_724 178 9 = true := by decide +kernel
theorem vx_724_21 : vm_chk bt_208 [] vk_724 39 vc_724 187 9 = true := by decide +kernel
theorem vx_724_22 : vm_chk bt_208 [] vk_724 39 vc_724 196 8 = true := by decide +kernel
theorem vx_724_23 : vm_chk bt_208 [] vk_724 39 vc_724 204 9 = true := by decide +kernel
theorem vx_724_24 : vm_chk bt_208 [] vk_724 39 vc_724 213 9 = true := by decide +kernel
theorem vx_724_25 : vm_chk bt_208 [] vk_724 39 vc_724 222 9 = true := by decide +kernel
theorem vx_724_26 : vm_chk bt_208 [] vk_724 39 vc_724 231 8 = true := by decide +kernel
theorem vx_724_27 : vm_chk bt_208 [] vk_724 39 vc_724 239 9 = true := by decide +kernel
theorem vx_724_28 : vm_chk bt_208 [] vk_724 39 vc_724 248 9 = true := by decide +kernel
theorem vx_724_29 : vm_chk bt_208 [] vk_724 39 vc_724 257 9 = true := by decide +kernel
theorem vx_724_30 : vm_chk bt_208 [] vk_724 39 vc_724 266 8 = true := by decide +kernel
theorem vx_724_31 : vm_chk bt_208 [] vk_724 39 vc_724 274 9 = true := by decide +kernel
theorem vx_724_32 : vm_chk bt_208 [] vk_724 39 vc_724 283 9 = true := by decide +kernel
theorem vx_724_33 : vm_chk bt_208 [] vk_724 39 vc_724 292 9 = true := by decide +kernel
theorem vx_724_34 : vm_chk bt_208 [] vk_724 39 vc_724 301 8 = true := by decide +kernel
theorem vx_724_35 : vm_chk bt_208 [] vk_724 39 vc_724 309 9 = true := by decide +kernel
theorem vx_724_36 : vm_chk bt_208 [] vk_724 39 vc_724 318 9 = true := by decide +kernel
theorem vx_724_37 : vm_chk bt_208 [] vk_724 39 vc_724 327 9 = true := by decide +kernel
theorem vx_724_38 : vm_chk bt_208 [] vk_724 39 vc_724 336 8 = true := by decide +kernel
theorem vx_724_39 : vm_chk bt_208 [] vk_724 39 vc_724 344 9 = true := by decide +kernel
theorem vx_724_40 : vm_chk bt_208 [] vk_724 39 vc_724 353 9 = true := by decide +kernel
theorem vx_724_41 : vm_chk bt_208 [] vk_724 39 vc_724 362 9 = true := by decide +kernel
theorem vx_724_42 : vm_chk bt_208 [] vk_724 39 vc_724 371 8 = true := by decide +kernel
theorem vx_724_43 : vm_chk bt_208 [] vk_724 39 vc_724 379 9 = true := by decide +kernel
theorem vx_724_44 : vm_chk bt_208 [] vk_724 39 vc_724 388 9 = true := by decide +kernel
theorem vx_724_45 : vm_chk bt_208 [] vk_724 39 vc_724 397 9 = true := by decide +kernel
theorem vx_724_46 : vm_chk bt_208 [] vk_724 39 vc_724 406 8 = true := by decide +kernel
theorem vx_724_47 : vm_chk bt_208 [] vk_724 39 vc_724 414 10 = true := by decide +kernel
theorem vx_724_48 : vm_chk bt_208 [] vk_724 39 vc_724 424 9 = true := by decide +kernel
theorem vx_724_49 : vm_chk bt_208 [] vk_724 39 vc_724 433 9 = true := by decide +kernel
theorem vx_724_50 : vm_chk bt_208 [] vk_724 39 vc_724 442 9 = true := by decide +kernel
theorem vx_724_51 : vm_chk bt_208 [] vk_724 39 vc_724 451 9 = true := by decide +kernel
theorem vx_724_52 : vm_chk bt_208 [] vk_724 39 vc_724 460 9 = true := by decide +kernel
theorem vx_724_53 : vm_chk bt_208 [] vk_724 39 vc_724 469 9 = true := by decide +kernel
theorem vx_724_54 : vm_chk bt_208 [] vk_724 39 vc_724 478 9 = true := by decide +kernel
theorem vx_724_55 : vm_chk bt_208 [] vk_724 39 vc_724 487 9 = true := by decide +kernel
theorem vx_724_56 : vm_chk bt_208 [] vk_724 39 vc_724 496 9 = true := by decide +kernel
theorem vx_724_57 : vm_chk bt_208 [] vk_724 39 vc_724 505 9 = true := by decide +kernel
theorem vx_724_58 : vm_chk bt_208 [] vk_724 39 vc_724 514 9 = true := by decide +kernel
theorem vx_724_59 : vm_chk bt_208 [] vk_724 39 vc_724 523 9 = true := by decide +kernel
theorem vx_724_60 : vm_chk bt_208 [] vk_724 39 vc_724 532 9 = true := by decide +kernel
theorem vx_724_61 : vm_chk bt_208 [] vk_724 39 vc_724 541 9 = true := by decide +kernel
theorem vx_724_62 : vm_chk bt_208 [] vk_724 39 vc_724 550 9 = true := by decide +kernel
theorem vx_724_63 : vm_chk bt_208 [] vk_724 39 vc_724 559 9 = true := by decide +kernel
theorem vx_724_64 : vm_chk bt_208 [] vk_724 39 vc_724 568 9 = true := by decide +kernel
theorem vx_724_65 : vm_chk bt_208 [] vk_724 39 vc_724 577 9 = true := by decide +kernel
theorem vx_724_66 : vm_chk bt_208 [] vk_724 39 vc_724 586 9 = true := by decide +kernel
theorem vx_724_67 : vm_chk bt_208 [] vk_724 39 vc_724 595 9 = true := by decide +kernel
theorem vx_724_68 : vm_chk bt_208 [] vk_724 39 vc_724 604 9 = true := by decide +kernel
theorem vx_724_69 : vm_chk bt_208 [] vk_724 39 vc_724 613 9 = true := by decide +kernel
theorem vx_724_70 : vm_chk bt_208 [] vk_724 39 vc_724 622 9 = true := by decide +kernel
theorem vx_724_71 : vm_chk bt_208 [] vk_724 39 vc_724 631 9 = true := by decide +kernel
theorem vx_724_72 : vm_chk bt_208 [] vk_724 39 vc_724 640 9 = true := by decide +kernel
theorem vx_724_73 : vm_chk bt_208 [] vk_724 39 vc_724 649 9 = true := by decide +kernel
theorem vx_724_74 : vm_chk bt_208 [] vk_724 39 vc_724 658 9 = true := by decide +kernel
theorem vx_724_75 : vm_chk bt_208 [] vk_724 39 vc_724 667 9 = true := by decide +kernel
theorem vx_724_76 : vm_chk bt_208 [] vk_724 39 vc_724 676 9 = true := by decide +kernel
theorem vx_724_77 : vm_chk bt_208 [] vk_724 39 vc_724 685 9 = true := by decide +kernel
theorem vx_724_78 : vm_chk bt_208 [] vk_724 39 vc_724 694 9 = true := by decide +kernel
theorem vx_724_79 : vm_chk bt_208 [] vk_724 39 vc_724 703 9 = true := by decide +kernel
theorem vx_724_80 : vm_chk bt_208 [] vk_724 39 vc_724 712 9 = true := by decide +kernel
theorem vx_724_81 : vm_chk bt_208 [] vk_724 39 vc_724 721 9 = true := by decide +kernel
theorem vx_724_82 : vm_chk bt_208 [] vk_724 39 vc_724 730 9 = true := by decide +kernel
theorem vx_724_83 : vm_chk bt_208 [] vk_724 39 vc_724 739 9 = true := by decide +kernel
theorem vx_724_84 : vm_chk bt_208 [] vk_724 39 vc_724 748 9 = true := by decide +kernel
theorem vx_724_85 : vm_chk bt_208 [] vk_724 39 vc_724 757 9 = true := by decide +kernel
theorem vx_724_86 : vm_chk bt_208 [] vk_724 39 vc_724 766 9 = true := by decide +kernel
theorem vx_724_87 : vm_chk bt_208 [] vk_724 39 vc_724 775 9 = true := by decide +kernel
theorem vx_724_88 : vm_chk bt_208 [] vk_724 39 vc_724 784 9 = true := by decide +kernel
theorem vx_724_89 : vm_chk bt_208 [] vk_724 39 vc_724 793 9 = true := by decide +kernel
theorem vx_724_90 : vm_chk bt_208 [] vk_724 39 vc_724 802 9 = true := by decide +kernel
theorem vx_724_91 : vm_chk bt_208 [] vk_724 39 vc_724 811 9 = true := by decide +kernel
theorem vx_724_92 : vm_chk bt_208 [] vk_724 39 vc_724 820 9 = true := by decide +kernel
theorem vx_724_93 : vm_chk bt_208 [] vk_724 39 vc_724 829 9 = true := by decide +kernel
theorem vx_724_94 : vm_chk bt_208 [] vk_724 39 vc_724 838 9 = true := by decide +kernel
theorem vx_724_95 : vm_chk bt_208 [] vk_724 39 vc_724 847 9 = true := by decide +kernel
theorem vx_724_96 : vm_chk bt_208 [] vk_724 39 vc_724 856 9 = true := by decide +kernel
theorem vx_724_97 : vm_chk bt_208 [] vk_724 39 vc_724 865 9 = true := by decide +kernel
theorem vx_724_98 : vm_chk bt_208 [] vk_724 39 vc_724 874 9 = true := by decide +kernel
theorem vx_724_99 : vm_chk bt_208 [] vk_724 39 vc_724 883 9 = true := by decide +kernel
theorem vx_724_100 : vm_chk bt_208 [] vk_724 39 vc_724 892 9 = true := by decide +kernel
theorem vx_724_101 : vm_chk bt_208 [] vk_724 39 vc_724 901 9 = true := by decide +kernel
theorem vx_724_102 : vm_chk bt_208 [] vk_724 39 vc_724 910 9 = true := by decide +kernel
theorem vx_724_103 : vm_chk bt_208 [] vk_724 39 vc_724 919 9 = true := by decide +kernel
theorem vx_724_104 : vm_chk bt_208 [] vk_724 39 vc_724 928 9 = true := by decide +kernel
theorem vx_724_105 : vm_chk bt_208 [] vk_724 39 vc_724 937 9 = true := by decide +kernel
theorem vx_724_106 : vm_chk bt_208 [] vk_724 39 vc_724 946 9 = true := by decide +kernel
theorem vx_724_107 : vm_chk bt_208 [] vk_724 39 vc_724 955 9 = true := by decide +kernel
theorem vx_724_108 : vm_chk bt_208 [] vk_724 39 vc_724 964 9 = true := by decide +kernel
theorem vx_724_109 : vm_chk bt_208 [] vk_724 39 vc_724 973 9 = true := by decide +kernel
theorem vx_724_110 : vm_chk bt_208 [] vk_724 39 vc_724 982 9 = true := by decide +kernel
theorem vx_724_111 : vm_chk bt_208 [] vk_724 39 vc_724 991 9 = true := by decide +kernel
theorem vx_724_112 : vm_chk bt_208 [] vk_724 39 vc_724 1000 9 = true := by decide +kernel
theorem vx_724_113 : vm_chk bt_208 [] vk_724 39 vc_724 1009 9 = true := by decide +kernel
theorem vx_724_114 : vm_chk bt_208 [] vk_724 39 vc_724 1018 9 = true := by decide +kernel
theorem vx_724_115 : vm_chk bt_208 [] vk_724 39 vc_724 1027 9 = true := by decide +kernel
theorem vx_724_116 : vm_chk bt_208 [] vk_724 39 vc_724 1036 9 = true := by decide +kernel
theorem vx_724_117 : vm_chk bt_208 [] vk_724 39 vc_724 1045 9 = true := by decide +kernel
theorem vx_724_118 : vm_chk bt_208 [] vk_724 39 vc_724 1054 9 = true := by decide +kernel
theorem vx_724_119 : vm_chk bt_208 [] vk_724 39 vc_724 1063 9 = true := by decide +kernel
theorem vx_724_120 : vm_chk bt_208 [] vk_724 39 vc_724 1072 9 = true := by decide +kernel
theorem vx_724_121 : vm_chk bt_208 [] vk_724 39 vc_724 1081 9 = true := by decide +kernel
theorem vx_724_122 : vm_chk bt_208 [] vk_724 39 vc_724 1090 9 = true := by decide +kernel
theorem vx_724_123 : vm_chk bt_208 [] vk_724 39 vc_724 1099 9 = true := by decide +kernel
theorem vx_724_124 : vm_chk bt_208 [] vk_724 39 vc_724 1108 9 = true := by decide +kernel
theorem vx_724_125 : vm_chk bt_208 [] vk_724 39 vc_724 1117 9 = true := by decide +kernel
theorem vx_724_126 : vm_chk bt_208 [] vk_724 39 vc_724 1126 9 = true := by decide +kernel
theorem vx_724_127 : vm_chk bt_208 [] vk_724 39 vc_724 1135 9 = true := by decide +kernel
theorem vx_724_128 : vm_chk bt_208 [] vk_724 39 vc_724 1144 9 = true := by decide +kernel
theorem vx_724_129 : vm_chk bt_208 [] vk_724 39 vc_724 1153 9 = true := by decide +kernel
theorem vx_724_130 : vm_chk bt_208 [] vk_724 39 vc_724 1162 9 = true := by decide +kernel
theorem vx_724_131 : vm_chk bt_208 [] vk_724 39 vc_724 1171 9 = true := by decide +kernel
theorem vx_724_132 : vm_chk bt_208 [] vk_724 39 vc_724 1180 9 = true := by decide +kernel
theorem vx_724_133 : vm_chk bt_208 [] vk_724 39 vc_724 1189 9 = true := by decide +kernel
theorem vx_724_134 : vm_chk bt_208 [] vk_724 39 vc_724 1198 9 = true := by decide +kernel
theorem vx_724_135 : vm_chk bt_208 [] vk_724 39 vc_724 1207 9 = true := by decide +kernel
theorem vx_724_136 : vm_chk bt_208 [] vk_724 39 vc_724 1216 9 = true := by decide +kernel
theorem vx_724_137 : vm_chk bt_208 [] vk_724 39 vc_724 1225 9 = true := by decide +kernel
theorem vx_724_138 : vm_chk bt_208 [] vk_724 39 vc_724 1234 9 = true := by decide +kernel
theorem vx_724_139 : vm_chk bt_208 [] vk_724 39 vc_724 1243 9 = true := by decide +kernel
theorem vx_724_140 : vm_chk bt_208 [] vk_724 39 vc_724 1252 9 = true := by decide +kernel
theorem vx_724_141 : vm_chk bt_208 [] vk_724 39 vc_724 1261 9 = true := by decide +kernel
theorem vx_724_142 : vm_chk bt_208 [] vk_724 39 vc_724 1270 9 = true := by decide +kernel
theorem vx_724_143 : vm_chk bt_208 [] vk_724 39 vc_724 1279 9 = true := by decide +kernel
theorem vx_724_144 : vm_chk bt_208 [] vk_724 39 vc_724 1288 9 = true := by decide +kernel
theorem vx_724_145 : vm_chk bt_208 [] vk_724 39 vc_724 1297 9 = true := by decide +kernel
theorem vx_724_146 : vm_chk bt_208 [] vk_724 39 vc_724 1306 9 = true := by decide +kernel
theorem vx_724_147 : vm_chk bt_208 [] vk_724 39 vc_724 1315 9 = true := by decide +kernel
theorem vx_724_148 : vm_chk bt_208 [] vk_724 39 vc_724 1324 9 = true := by decide +kernel
theorem vx_724_149 : vm_chk bt_208 [] vk_724 39 vc_724 1333 9 = true := by decide +kernel
theorem vx_724_150 : vm_chk bt_208 [] vk_724 39 vc_724 1342 9 = true := by decide +kernel
theorem vx_724_151 : vm_chk bt_208 [] vk_724 39 vc_724 1351 9 = true := by decide +kernel
theorem vx_724_152 : vm_chk bt_208 [] vk_724 39 vc_724 1360 9 = true := by decide +kernel
theorem vx_724_153 : vm_chk bt_208 [] vk_724 39 vc_724 1369 9 = true := by decide +kernel
theorem vx_724_154 : vm_chk bt_208 [] vk_724 39 vc_724 1378 9 = true := by decide +kernel
theorem vx_724_155 : vm_chk bt_208 [] vk_724 39 vc_724 1387 9 = true := by decide +kernel
theorem vx_724_156 : vm_chk bt_208 [] vk_724 39 vc_724 1396 9 = true := by decide +kernel
theorem vx_724_157 : vm_chk bt_208 [] vk_724 39 vc_724 1405 9 = true := by decide +kernel
theorem vx_724_158 : vm_chk bt_208 [] vk_724 39 vc_724 1414 9 = true := by decide +kernel
theorem vx_724_159 : vm_chk bt_208 [] vk_724 39 vc_724 1423 9 = true := by decide +kernel
theorem vx_724_160 : vm_chk bt_208 [] vk_724 39 vc_724 1432 9 = true := by decide +kernel
theorem vx_724_161 : vm_chk bt_208 [] vk_724 39 vc_724 1441 9 = true := by decide +kernel
theorem vx_724_162 : vm_chk bt_208 [] vk_724 39 vc_724 1450 9 = true := by decide +kernel
theorem vx_724_163 : vm_chk bt_208 [] vk_724 39 vc_724 1459 9 = true := by decide +kernel
theorem vx_724_164 : vm_chk bt_208 [] vk_724 39 vc_724 1468 9 = true := by decide +kernel
theorem vx_724_165 : vm_chk bt_208 [] vk_724 39 vc_724 1477 9 = true := by decide +kernel
theorem vx_724_166 : vm_chk bt_208 [] vk_724 39 vc_724 1486 9 = true := by decide +kernel
theorem vx_724_167 : vm_chk bt_208 [] vk_724 39 vc_724 1495 9 = true := by decide +kernel
theorem vx_724_168 : vm_chk bt_208 [] vk_724 39 vc_724 1504 9 = true := by decide +kernel
theorem vx_724_169 : vm_chk bt_208 [] vk_724 39 vc_724 1513 9 = true := by decide +kernel
theorem vx_724_170 : vm_chk bt_208 [] vk_724 39 vc_724 1522 9 = true := by decide +kernel
theorem vx_724_171 : vm_chk bt_208 [] vk_724 39 vc_724 1531 9 = true := by decide +kernel
theorem vx_724_172 : vm_chk bt_208 [] vk_724 39 vc_724 1540 9 = true := by decide +kernel
theorem vx_724_173 : vm_chk bt_208 [] vk_724 39 vc_724 1549 9 = true := by decide +kernel
theorem vx_724_174 : vm_chk bt_208 [] vk_724 39 vc_724 1558 9 = true := by decide +kernel
theorem vx_724_175 : vm_chk bt_208 [] vk_724 39 vc_724 1567 9 = true := by decide +kernel
theorem vx_724_176 : vm_chk bt_208 [] vk_724 39 vc_724 1576 9 = true := by decide +kernel
theorem vx_724_177 : vm_chk bt_208 [] vk_724 39 vc_724 1585 9 = true := by decide +kernel
theorem vx_724_178 : vm_chk bt_208 [] vk_724 39 vc_724 1594 9 = true := by decide +kernel
theorem vx_724_179 : vm_chk bt_208 [] vk_724 39 vc_724 1603 9 = true := by decide +kernel
theorem vx_724_180 : vm_chk bt_208 [] vk_724 39 vc_724 1612 9 = true := by decide +kernel
theorem vx_724_181 : vm_chk bt_208 [] vk_724 39 vc_724 1621 9 = true := by decide +kernel
theorem vx_724_182 : vm_chk bt_208 [] vk_724 39 vc_724 1630 9 = true := by decide +kernel
theorem vx_724_183 : vm_chk bt_208 [] vk_724 39 vc_724 1639 9 = true := by decide +kernel
theorem vx_724_184 : vm_chk bt_208 [] vk_724 39 vc_724 1648 9 = true := by decide +kernel
theorem vx_724_185 : vm_chk bt_208 [] vk_724 39 vc_724 1657 9 = true := by decide +kernel
theorem vx_724_186 : vm_chk bt_208 [] vk_724 39 vc_724 1666 9 = true := by decide +kernel
theorem vx_724_187 : vm_chk bt_208 [] vk_724 39 vc_724 1675 9 = true := by decide +kernel
theorem vx_724_188 : vm_chk bt_208 [] vk_724 39 vc_724 1684 9 = true := by decide +kernel
theorem vx_724_189 : vm_chk bt_208 [] vk_724 39 vc_724 1693 9 = true := by decide +kernel
theorem vx_724_190 : vm_chk bt_208 [] vk_724 39 vc_724 1702 9 = true := by decide +kernel
theorem vx_724_191 : vm_chk bt_208 [] vk_724 39 vc_724 1711 9 = true := by decide +kernel
theorem vx_724_192 : vm_chk bt_208 [] vk_724 39 vc_724 1720 9 = true := by decide +kernel
theorem vx_724_193 : vm_chk bt_208 [] vk_724 39 vc_724 1729 9 = true := by decide +kernel
theorem vx_724_194 : vm_chk bt_208 [] vk_724 39 vc_724 1738 9 = true := by decide +kernel
theorem vx_724_195 : vm_chk bt_208 [] vk_724 39 vc_724 1747 9 = true := by decide +kernel
theorem vx_724_196 : vm_chk bt_208 [] vk_724 39 vc_724 1756 9 = true := by decide +kernel
theorem vx_724_197 : vm_chk bt_208 [] vk_724 39 vc_724 1765 9 = true := by decide +kernel
theorem vx_724_198 : vm_chk bt_208 [] vk_724 39 vc_724 1774 9 = true := by decide +kernel
theorem vx_724_199 : vm_chk bt_208 [] vk_724 39 vc_724 1783 9 = true := by decide +kernel
theorem vx_724_200 : vm_chk bt_208 [] vk_724 39 vc_724 1792 9 = true := by decide +kernel
theorem vx_724_201 : vm_chk bt_208 [] vk_724 39 vc_724 1801 9 = true := by decide +kernel
theorem vx_724_202 : vm_chk bt_208 [] vk_724 39 vc_724 1810 9 = true := by decide +kernel
theorem vx_724_203 : vm_chk bt_208 [] vk_724 39 vc_724 1819 9 = true := by decide +kernel
theorem vx_724_204 : vm_chk bt_208 [] vk_724 39 vc_724 1828 9 = true := by decide +kernel
theorem vx_724_205 : vm_chk bt_208 [] vk_724 39 vc_724 1837 9 = true := by decide +kernel
theorem vx_724_206 : vm_chk bt_208 [] vk_724 39 vc_724 1846 9 = true := by decide +kernel
theorem vx_724_207 : vm_chk bt_208 [] vk_724 39 vc_724 1855 9 = true := by decide +kernel
theorem vx_724_208 : vm_chk bt_208 [] vk_724 39 vc_724 1864 9 = true := by decide +kernel
theorem vx_724_209 : vm_chk bt_208 [] vk_724 39 vc_724 1873 9 = true := by decide +kernel
theorem vx_724_210 : vm_chk bt_208 [] vk_724 39 vc_724 1882 9 = true := by decide +kernel
theorem vx_724_211 : vm_chk bt_208 [] vk_724 39 vc_724 1891 9 = true := by decide +kernel
theorem vx_724_212 : vm_chk bt_208 [] vk_724 39 vc_724 1900 9 = true := by decide +kernel
theorem vx_724_213 : vm_chk bt_208 [] vk_724 39 vc_724 1909 9 = true := by decide +kernel
theorem vx_724_214 : vm_chk bt_208 [] vk_724 39 vc_724 1918 9 = true := by decide +kernel
theorem vx_724_215 : vm_chk bt_208 [] vk_724 39 vc_724 1927 9 = true := by decide +kernel
theorem vx_724_216 : vm_chk bt_208 [] vk_724 39 vc_724 1936 9 = true := by decide +kernel
theorem vx_724_217 : vm_chk bt_208 [] vk_724 39 vc_724 1945 9 = true := by decide +kernel
theorem vx_724_218 : vm_chk bt_208 [] vk_724 39 vc_724 1954 8 = true := by decide +kernel
theorem vx_724_219 : vm_chk bt_208 [] vk_724 39 vc_724 1962 8 = true := by decide +kernel
theorem vx_724_220 : vm_chk bt_208 [] vk_724 39 vc_724 1970 2 = true := by decide +kernel
theorem vy_724 : vm_ents 208 39 vc_724 ve_724 = true := by decide +kernel
theorem vgr_724_0 (i : Nat) : i < 353 → ∃ lo k, lo ≤ i ∧ i < lo + k ∧ vm_chk bt_208 [] vk_724 39 vc_724 lo k = true := vm_hc vx_724_39 rfl (vm_hc vx_724_38 rfl (vm_hc vx_724_37 rfl (vm_hc vx_724_36 rfl (vm_hc vx_724_35 rfl (vm_hc vx_724_34 rfl (vm_hc vx_724_33 rfl (vm_hc vx_724_32 rfl (vm_hc vx_724_31 rfl (vm_hc vx_724_30 rfl (vm_hc vx_724_29 rfl (vm_hc vx_724_28 rfl (vm_hc vx_724_27 rfl (vm_hc vx_724_26 rfl (vm_hc vx_724_25 rfl (vm_hc vx_724_24 rfl (vm_hc vx_724_23 rfl (vm_hc vx_724_22 rfl (vm_hc vx_724_21 rfl (vm_hc vx_724_20 rfl (vm_hc vx_724_19 rfl (vm_hc vx_724_18 rfl (vm_hc vx_724_17 rfl (vm_hc vx_724_16 rfl (vm_hc vx_724_15 rfl (vm_hc vx_724_14 rfl (vm_hc vx_724_13 rfl (vm_hc vx_724_12 rfl (vm_hc vx_724_11 rfl (vm_hc vx_724_10 rfl (vm_hc vx_724_9 rfl (vm_hc vx_724_8 rfl (vm_hc vx_724_7 rfl (vm_hc vx_724_6 rfl (vm_hc vx_724_5 rfl (vm_hc vx_724_4 rfl (vm_hc vx_724_3 rfl (vm_hc vx_724_2 rfl (vm_hc vx_724_1 rfl (vm_hc vx_724_0 rfl (fun h => absurd h (Nat.not_lt_zero _)))))))))))))))))))))))))))))))))))))))))
theorem vgr_724_1 (i : Nat) : i < 712 → ∃ lo k, lo ≤ i ∧ i < lo + k ∧ vm_chk bt_208 [] vk_724 39 vc_724 lo k = true := vm_hc vx_724_79 rfl (vm_hc vx_724_78 rfl (vm_hc vx_724_77 rfl (vm_hc vx_724_76 rfl (vm_hc vx_724_75 rfl (vm_hc vx_724_74 rfl (vm_hc vx_724_73 rfl (vm_hc vx_724_72 rfl (vm_hc vx_724_71 rfl (vm_hc vx_724_70 rfl (vm_hc vx_724_69 rfl (vm_hc vx_724_68 rfl (vm_hc vx_724_67 rfl (vm_hc vx_724_66 rfl (vm_hc vx_724_65 rfl (vm_hc vx_724_64 rfl (vm_hc vx_724_63 rfl (vm_hc vx_724_62 rfl (vm_hc vx_724_61 rfl (vm_hc vx_724_60 rfl (vm_hc vx_724_59 rfl (vm_hc vx_724_58 rfl (vm_hc vx_724_57 rfl (vm_hc vx_724_56 rfl (vm_hc vx_724_55 rfl (vm_hc vx_724_54 rfl (vm_hc vx_724_53 rfl (vm_hc vx_724_52 rfl (vm_hc vx_724_51 rfl (vm_hc vx_724_50 rfl (vm_hc vx_724_49 rfl (vm_hc vx_724_48 rfl (vm_hc vx_724_47 rfl (vm_hc vx_724_46 rfl (vm_hc vx_724_45 rfl (vm_hc vx_724_44 rfl (vm_hc vx_724_43 rfl (vm_hc vx_724_42 rfl (vm_hc vx_724_41 rfl (vm_hc vx_724_40 rfl (vgr_724_0 i))))))))))))))))))))))))))))))))))))))))
theorem vgr_724_2 (i : Nat) : i < 1072 → ∃ lo k, lo ≤ i ∧ i < lo + k ∧ vm_chk bt_208 [] vk_724 39 vc_724 lo k = true := vm_hc vx_724_119 rfl (vm_hc vx_724_118 rfl (vm_hc vx_724_117 rfl (vm_hc vx_724_116 rfl (vm_hc vx_724_115 rfl (vm_hc vx_724_114 rfl (vm_hc vx_724_113 rfl (vm_hc vx_724_112 rfl (vm_hc vx_724_111 rfl (vm_hc vx_724_110 rfl (vm_hc vx_724_109 rfl (vm_hc vx_724_108 rfl (vm_hc vx_724_107 rfl (vm_hc vx_724_106 rfl (vm_hc vx_724_105 rfl (vm_hc vx_724_104 rfl (vm_hc vx_724_103 rfl (vm_hc vx_724_102 rfl (vm_hc vx_724_101 rfl (vm_hc vx_724_100 rfl (vm_hc vx_724_99 rfl (vm_hc vx_724_98 rfl (vm_hc vx_724_97 rfl (vm_hc vx_724_96 rfl (vm_hc vx_724_95 rfl (vm_hc vx_724_94 rfl (vm_hc vx_724_93 rfl (vm_hc vx_724_92 rfl (vm_hc vx_724_91 rfl (vm_hc vx_724_90 rfl (vm_hc vx_724_89 rfl (vm_hc vx_724_88 rfl (vm_hc vx_724_87 rfl (vm_hc vx_724_86 rfl (vm_hc vx_724_85 rfl (vm_hc vx_724_84 rfl (vm_hc vx_724_83 rfl (vm_hc vx_724_82 rfl (vm_hc vx_724_81 rfl (vm_hc vx_724_80 rfl (vgr_724_1 i))))))))))))))))))))))))))))))))))))))))
theorem vgr_724_3 (i : Nat) : i < 1432 → ∃ lo k, lo ≤ i ∧ i < lo + k ∧ vm_chk bt_208 [] vk_724 39 vc_724 lo k = true := vm_hc vx_724_159 rfl (vm_hc vx_724_158 rfl (vm_hc vx_724_157 rfl (vm_hc vx_724_156 rfl (vm_hc vx_724_155 rfl (vm_hc vx_724_154 rfl (vm_hc vx_724_153 rfl (vm_hc vx_724_152 rfl (vm_hc vx_724_151 rfl (vm_hc vx_724_150 rfl (vm_hc vx_724_149 rfl (vm_hc vx_724_148 rfl (vm_hc vx_724_147 rfl (vm_hc vx_724_146 rfl (vm_hc vx_724_145 rfl (vm_hc vx_724_144 rfl (vm_hc vx_724_143 rfl (vm_hc vx_724_142 rfl (vm_hc vx_724_141 rfl (vm_hc vx_724_140 rfl (vm_hc vx_724_139 rfl (vm_hc vx_724_138 rfl (vm_hc vx_724_137 rfl (vm_hc vx_724_136 rfl (vm_hc vx_724_135 rfl (vm_hc vx_724_134 rfl (vm_hc vx_724_133 rfl (vm_hc vx_724_132 rfl (vm_hc vx_724_131 rfl (vm_hc vx_724_130 rfl (vm_hc vx_724_129 rfl (vm_hc vx_724_128 rfl (vm_hc vx_724_127 rfl (vm_hc vx_724_126 rfl (vm_hc vx_724_125 rfl (vm_hc vx_724_124 rfl (vm_hc vx_724_123 rfl (vm_hc vx_724_122 rfl (vm_hc vx_724_121 rfl (vm_hc vx_724_120 rfl (vgr_724_2 i))))))))))))))))))))))))))))))))))))))))
theorem vgr_724_4 (i : Nat) : i < 1792 → ∃ lo k, lo ≤ i ∧ i < lo + k ∧ vm_chk bt_208 [] vk_724 39 vc_724 lo k = true := vm_hc vx_724_199 rfl (vm_hc vx_724_198 rfl (vm_hc vx_724_197 rfl (vm_hc vx_724_196 rfl (vm_hc vx_724_195 rfl (vm_hc vx_724_194 rfl (vm_hc vx_724_193 rfl (vm_hc vx_724_192 rfl (vm_hc vx_724_191 rfl (vm_hc vx_724_190 rfl (vm_hc vx_724_189 rfl (vm_hc vx_724_188 rfl (vm_hc vx_724_187 rfl (vm_hc vx_724_186 rfl (vm_hc vx_724_185 rfl (vm_hc vx_724_184 rfl (vm_hc vx_724_183 rfl (vm_hc vx_724_182 rfl (vm_hc vx_724_181 rfl (vm_hc vx_724_180 rfl (vm_hc vx_724_179 rfl (vm_hc vx_724_178 rfl (vm_hc vx_724_177 rfl (vm_hc vx_724_176 rfl (vm_hc vx_724_175 rfl (vm_hc vx_724_174 rfl (vm_hc vx_724_173 rfl (vm_hc vx_724_172 rfl (vm_hc vx_724_171 rfl (vm_hc vx_724_170 rfl (vm_hc vx_724_169 rfl (vm_hc vx_724_168 rfl (vm_hc vx_724_167 rfl (vm_hc vx_724_166 rfl (vm_hc vx_724_165 rfl (vm_hc vx_724_164 rfl (vm_hc vx_724_163 rfl (vm_hc vx_724_162 rfl (vm_hc vx_724_161 rfl (vm_hc vx_724_160 rfl (vgr_724_3 i))))))))))))))))))))))))))))))))))))))))
theorem vgr_724_5 (i : Nat) : i < 1972 → ∃ lo k, lo ≤ i ∧ i < lo + k ∧ vm_chk bt_208 [] vk_724 39 vc_724 lo k = true := vm_hc vx_724_220 rfl (vm_hc vx_724_219 rfl (vm_hc vx_724_218 rfl (vm_hc vx_724_217 rfl (vm_hc vx_724_216 rfl (vm_hc vx_724_215 rfl (vm_hc vx_724_214 rfl (vm_hc vx_724_213 rfl (vm_hc vx_724_212 rfl (vm_hc vx_724_211 rfl (vm_hc vx_724_210 rfl (vm_hc vx_724_209 rfl (vm_hc vx_724_208 rfl (vm_hc vx_724_207 rfl (vm_hc vx_724_206 rfl (vm_hc vx_724_205 rfl (vm_hc vx_724_204 rfl (vm_hc vx_724_203 rfl (vm_hc vx_724_202 rfl (vm_hc vx_724_201 rfl (vm_hc vx_724_200 rfl (vgr_724_4 i)))))))))))))))))))))
theorem vw_724 : ∀ q ∈ vk_724, vm_wt 6 q := vm_wts (vm_kc (vm_up v_717 rfl) (vm_kc (vm_up v_636 rfl) (vm_kc (vm_up v_586 rfl) (vm_kc (vm_up v_568 rfl) (vm_kc (vm_up v_482 rfl) (vm_kc (vm_up v_719 rfl) (vm_kc (vm_up v_558 rfl) (vm_kc (vm_up v_718 rfl) (vm_kc (vm_up v_720 rfl) (vm_kc (vm_up v_721 rfl) (vm_kc (vm_up v_722 rfl) (vm_kc (vm_up v_723 rfl) vm_kn)))))))))))) (by decide +kernel)
theorem v_724 : vm_at 7 q_724 := vm_ok (inl := []) (es := ve_724) bq_208 (by decide) vw_724 vy_724 (fun i => vgr_724_5 i) _ List.mem_cons_self
noncomputable def vp_725 : List vm_R := [(some (.inl (.ofNat 0, .ofNat 1)), va_h0)]
noncomputable def ve_725 : List vm_E := [([.inr (.inl am_top), .inr (.inl (.ofNat 1, .ofNat 1)), .inr (.inl (.ofNat 3, .ofNat 3))], va_h0, 0, [0])]
noncomputable def q_725 : vm_Q := (149, [.inr (.inl am_top), .inr (.inl (.ofNat 1, .ofNat 1)), .inr (.inl (.ofNat 3, .ofNat 3))], va_h0, vp_725)
noncomputable def vk_725 : List vm_U := []
noncomputable def vf_725 : List ((Nat → am_I) → vm_A) := [fun v => (0, [(0, .inr (.inl am_top)), (2, .inr (.inl (.ofNat 1, .ofNat 1))), (4, .inr (.inl (.ofNat 3, .ofNat 3)))], [], (80, []))]
noncomputable def vd_725_0_0 : List (List Nat) := [[0]]
noncomputable def vd_725_0 : List (List (List Nat)) := [vd_725_0_0]
noncomputable def vd_725 : List (List (List (List Nat))) := [vd_725_0]
noncomputable def vt_725 : List (List am_I) := []
noncomputable def vc_725 : vm_C := (fun _ => vp_725, fun pc => [], [], 1, vm_inst 8 1 vt_725 vf_725 vd_725)
theorem vx_725_0 : vm_chk bt_149 [] vk_725 13 vc_725 0 1 = true := by decide +kernel
theorem vy_725 : vm_ents 149 13 vc_725 ve_725 = true := by decide +kernel
theorem vw_725 : ∀ q ∈ vk_725, vm_wt 1 q := vm_wts vm_kn (by decide +kernel)
theorem v_725 : vm_at 2 q_725 := vm_ok (inl := []) (es := ve_725) bq_149 (by decide) vw_725 vy_725 (fun i => vm_hc vx_725_0 rfl (fun h => absurd h (Nat.not_lt_zero _))) _ List.mem_cons_self
noncomputable def vp_726 : List vm_R := [(some (.inl (.negSucc 3, .ofNat 24)), va_h0)]
noncomputable def ve_726 : List vm_E := [([.inr (.inr (some 70)), .inl am_top, .inl am_top, .inl am_top], va_h0, 0, [0, 1, 378])]
noncomputable def q_726 : vm_Q := (209, [.inr (.inr (some 70)), .inl am_top, .inl am_top, .inl am_top], va_h0, vp_726)
noncomputable def vk_726 : List vm_U := [(q_659, true, []), (q_662, true, []), (q_658, true, []), (q_725, true, []), (q_637, true, []), (q_482, false, []), (q_666, true, []), (q_668, true, []), (q_670, true, []), (q_672, true, []), (q_674, true, []), (q_676, true, []), (q_678, true, []), (q_680, true, []), (q_682, true, []), (q_684, true, []), (q_686, true, []), (q_688, true, []), (q_690, true, []), (q_692, true, []), (q_694, true, []), (q_696, true, []), (q_698, true, []), (q_700, true, []), (q_702, true, []), (q_704, true, []), (q_706, true, []), (q_708, true, []), (q_710, true, []), (q_712, true, []), (q_714, true, []), (q_667, true, []), (q_669, true, []), (q_671, true, []), (q_673, true, []), (q_675, true, []), (q_677, true, []), (q_679, true, []), (q_681, true, []), (q_683, true, []), (q_685, true, []), (q_687, true, []), (q_689, true, []), (q_691, true, []), (q_693, true, []), (q_695, true, []), (q_697, true, []), (q_699, true, []), (q_701, true, []), (q_703, true, []), (q_705, true, []), (q_707, true, []), (q_709, true, []), (q_711, true, []), (q_713, true, []), (q_715, true, []), (q_558, false, []), (q_559, true, [])]
noncomputable def vf_726 : List ((Nat → am_I) → vm_A) := [fun v => (0, [(0, .inr (.inr (some 70))), (1, .inl am_top), (2, .inl (v 0)), (3, .inl am_top)], [], (80, [])), fun v => (46, [(0, .inr (.inr (some 70))), (1, .inl am_top), (2, .inl (.ofNat 0, .ofNat 12)), (3, .inl am_top), (4, .inl (.negSucc 0, .negSucc 0)), (5, .inl (.negSucc 3, .negSucc 3)), (6, .inl (v 0))], [], (80, [])), fun v => (139, [(0, .inr (.inr (some 70))), (1, .inl am_top), (2, .inl (.ofNat 0, .ofNat 12)), (3, .inl am_top), (4, .inl (v 0)), (5, .inl (v 1)), (6, .inl (v 2)), (7, .inl (v 3))], [], (80, [])), fun v => (46, [(0, .inr (.inr (some 70))), (1, .inl am_top), (2, .inl (.ofNat 0, .ofNat 12)), (3, .inl am_top), (4, .inl (v 0)), (5, .inl (v 1)), (6, .inl (v 2)), (7, .inl am_top)], [], (80, []))]
noncomputable def vd_726_0_0 : List (List Nat) := [[95138542128201728, 6253446240991832965120, 461168601851328724993, 1209626795889438727602177, 2418792423177026126479361, 3627958050464613525356545, 4837123677752200924233729, 6046289305039788323110913], [7255454932327375721988097, 8464620559614963120865281, 9673786186902550519742465, 10882951814190137918619649, 12092117441477725317496833, 13301283068765312716374017, 14510448696052900115251201, 15719614323340487514128385], [16928779950628074913005569, 18137945577915662311882753, 19347111205203249710759937, 20556276832490837109637121, 21765442459778424508514305, 22974608087066011907391489, 24183773714353599306268673, 25392939341641186705145857], [26602104968928774104023041, 27811270596216361502900225, 29020436223503948901777409, 7036874417766401, 27096443823804252974433710374914, 340282394017382287249180837791769034754, 680564760938320750694108701149827694594, 1020847127859259214139036564507886354434], [1361129494780197677583964427865945014274, 1701411861701136141028892291224003674114, 2041694228622074604473820154582062333954, 2381976595543013067918748017940120993794, 2722258962463951531363675881298179653634, 3062541329384889994808603744656238313474, 3402823696305828458253531608014296973314, 3743106063226766921698459471372355633154], [62307562715876852190298272952221698, 5192297304628694874001628609904643, 5219551761101512049409375476908034, 340287586472699564956977272733535567874, 680569953393638028401905136091594227714, 1020852320314576491846832999449652887554, 1361134687235514955291760862807711547394, 1701417054156453418736688726165770207234], [2041699421077391882181616589523828867074, 2381981787998330345626544452881887526914, 2722264154919268809071472316239946186754, 3062546521840207272516400179598004846594, 3402828888761145735961328042956063506434, 3743111255682084199406255906314122166274, 62307641946457254987353272264687618, 10412007078379238292588390952992771], [10412007078379219845844317243441154, 340292778928016842664773707675302100994, 680575145848955306109701571033360760834, 1020857512769893769554629434391419420674, 1361139879690832232999557297749478080514, 1701422246611770696444485161107536740354, 2041704613532709159889413024465595400194, 2381986980453647623334340887823654060034]]
noncomputable def vd_726_0_1 : List (List Nat) := [[2722269347374586086779268751181712719874, 3062551714295524550224196614539771379714, 3402834081216463013669124477897830039554, 3743116448137401477114052341255888699394, 62307721177037657784408271577153538, 15604383165076580185456480826163203, 15604383165076561738712407116611586, 340297971304103540006666575765175271426], [680580338225042003451594439123233931266, 1020862705145980466896522302481292591106, 1361145072066918930341450165839351250946, 1701427438987857393786378029197409910786, 2041709805908795857231305892555468570626, 2381992172829734320676233755913527230466, 2722274539750672784121161619271585890306, 3062556906671611247566089482629644550146], [3402839273592549711011017345987703209986, 3743121640513488174455945209345761869826, 62307800406409097868360494295810050, 20796759251773922078324570699333635, 20796759251773903631580496989782018, 340303163680190237348559443855048441858, 680585530601128700793487307213107101698, 1020867897522067164238415170571165761538], [1361150264443005627683343033929224421378, 1701432631363944091128270897287283081218, 2041714998284882554573198760645341741058, 2381997365205821018018126624003400400898, 2722279732126759481463054487361459060738, 3062562099047697944907982350719517720578, 3402844465968636408352910214077576380418, 3743126832889574871797838077435635040258], [62307879635780537952312717014466562, 25989135338471263971192660572504067, 25989135338471245524448586862952450, 340308356056276934690452311944921612290, 680590722977215398135380175302980272130, 1020873089898153861580308038661038931970, 1361155456819092325025235902019097591810, 1701437823740030788470163765377156251650], [2041720190660969251915091628735214911490, 2382002557581907715360019492093273571330, 2722284924502846178804947355451332231170, 3062567291423784642249875218809390891010, 3402849658344723105694803082167449550850, 3743132025265661569139730945525508210690, 62307958865151978036264939733123074, 31181511425168605864060750445674499], [31181511425168587417316676736122882, 340313548432363632032345180034794782722, 680595915353302095477273043392853442562, 1020878282274240558922200906750912102402, 1361160649195179022367128770108970762242, 1701443016116117485812056633467029422082, 2041725383037055949256984496825088081922, 2382007749957994412701912360183146741762], [2722290116878932876146840223541205401602, 3062572483799871339591768086899264061442, 3402854850720809803036695950257322721282, 3743137217641748266481623813615381381122, 62308038094523418120217162451779586, 36373887511865947756928840318844931, 36373887511865929310184766609293314, 340318740808450329374238048124667953154]]
noncomputable def vd_726_0_2 : List (List Nat) := [[680601107729388792819165911482726612994, 1020883474650327256264093774840785272834, 1361165841571265719709021638198843932674, 1701448208492204183153949501556902592514, 2041730575413142646598877364914961252354, 2382012942334081110043805228273019912194, 2722295309255019573488733091631078572034, 3062577676175958036933660954989137231874], [3402860043096896500378588818347195891714, 3743142410017834963823516681705254551554, 62308117323894858204169385170436098, 41566263598563289649796930192015363, 41566263598563271203052856482463746, 340323933184537026716130916214541123586, 680606300105475490161058779572599783426, 1020888667026413953605986642930658443266], [1361171033947352417050914506288717103106, 1701453400868290880495842369646775762946, 2041735767789229343940770233004834422786, 2382018134710167807385698096362893082626, 2722300501631106270830625959720951742466, 3062582868552044734275553823079010402306, 3402865235472983197720481686437069062146, 3743147602393921661165409549795127721986], [62308196553266298288121607889092610, 46758639685260631542665020065185795, 46758639685260613095920946355634178, 340329125560623724058023784304414294018, 680611492481562187502951647662472953858, 1020893859402500650947879511020531613698, 1361176226323439114392807374378590273538, 1701458593244377577837735237736648933378], [2041740960165316041282663101094707593218, 2382023327086254504727590964452766253058, 2722305694007192968172518827810824912898, 3062588060928131431617446691168883572738, 3402870427849069895062374554526942232578, 3743152794770008358507302417885000892418, 62308275782637738372073830607749122, 51951015771957973435533109938356227], [51951015771957954988789036228804610, 340334317936710421399916652394287464450, 680616684857648884844844515752346124290, 1020899051778587348289772379110404784130, 1361181418699525811734700242468463443970, 1701463785620464275179628105826522103810, 2041746152541402738624555969184580763650, 2382028519462341202069483832542639423490], [2722310886383279665514411695900698083330, 3062593253304218128959339559258756743170, 3402875620225156592404267422616815403010, 3743157987146095055849195285974874062850, 62308355012009178456026053326405634, 57143391858655315328401199811526659, 57143391858655296881657126101975042, 340339510312797118741809520484160634882], [680621877233735582186737383842219294722, 1020904244154674045631665247200277954562, 1361186611075612509076593110558336614402, 1701468977996550972521520973916395274242, 2041751344917489435966448837274453934082, 2382033711838427899411376700632512593922, 2722316078759366362856304563990571253762, 3062598445680304826301232427348629913602]]
noncomputable def vd_726_0_3 : List (List Nat) := [[3402880812601243289746160290706688573442, 3743163179522181753191088154064747233282, 62308434241380618539978276045062146, 62335767945352657221269289684697091, 62335767945352638774525215975145474, 340344702688883816083702388574033805314, 680627069609822279528630251932092465154, 1020909436530760742973558115290151124994], [1361191803451699206418485978648209784834, 1701474170372637669863413842006268444674, 2041756537293576133308341705364327104514, 2382038904214514596753269568722385764354, 2722321271135453060198197432080444424194, 3062603638056391523643125295438503084034, 3402886004977329987088053158796561743874, 3743168371898268450532981022154620403714], [62308513470752058623930498763718658, 67528144032049999114137379557867523, 67528144032049980667393305848315906, 340349895064970513425595256663906975746, 680632261985908976870523120021965635586, 1020914628906847440315450983380024295426, 1361196995827785903760378846738082955266, 1701479362748724367205306710096141615106], [2041761729669662830650234573454200274946, 2382044096590601294095162436812258934786, 2722326463511539757540090300170317594626, 3062608830432478220985018163528376254466, 3402891197353416684429946026886434914306, 3743173564274355147874873890244493574146, 62308592700123498707882721482375170, 72720520118747341007005469431037955], [72720520118747322560261395721486338, 340355087441057210767488124753780146178, 680637454361995674212415988111838806018, 1020919821282934137657343851469897465858, 1361202188203872601102271714827956125698, 1701484555124811064547199578186014785538, 2041766922045749527992127441544073445378, 2382049288966687991437055304902132105218], [2722331655887626454881983168260190765058, 3062614022808564918326911031618249424898, 3402896389729503381771838894976308084738, 3743178756650441845216766758334366744578, 62308671929494938791834944201031682, 77912896205444682899873559304208387, 77912896205444664453129485594656770, 340360279817143908109380992843653316610], [680642646738082371554308856201711976450, 1020925013659020834999236719559770636290, 1361207380579959298444164582917829296130, 1701489747500897761889092446275887955970, 2041772114421836225334020309633946615810, 2382054481342774688778948172992005275650, 2722336848263713152223876036350063935490, 3062619215184651615668803899708122595330], [3402901582105590079113731763066181255170, 3743183949026528542558659626424239915010, 62308751158866378875787166919688194, 83105272292142024792741649177378819, 83105272292142006345997575467827202, 340365472193230605451273860933526487042, 680647839114169068896201724291585146882, 1020930206035107532341129587649643806722]]
noncomputable def vd_726_0_4 : List (List Nat) := [[1361212572956045995786057451007702466562, 1701494939876984459230985314365761126402, 2041777306797922922675913177723819786242, 2382059673718861386120841041081878446082, 2722342040639799849565768904439937105922, 3062624407560738313010696767797995765762, 3402906774481676776455624631156054425602, 3743189141402615239900552494514113085442], [62308830388237818959739389638344706, 88297648378839366685609739050549251, 88297648378839348238865665340997634, 340370664569317302793166729023399657474, 680653031490255766238094592381458317314, 1020935398411194229683022455739516977154, 1361217765332132693127950319097575636994, 1701500132253071156572878182455634296834], [2041782499174009620017806045813692956674, 2382064866094948083462733909171751616514, 2722347233015886546907661772529810276354, 3062629599936825010352589635887868936194, 3402911966857763473797517499245927596034, 3743194333778701937242445362603986255874, 62308909617609259043691612357001218, 93490024465536708578477828923719683], [93490024465536690131733755214168066, 340375856945404000135059597113272827906, 680658223866342463579987460471331487746, 1020940590787280927024915323829390147586, 1361222957708219390469843187187448807426, 1701505324629157853914771050545507467266, 2041787691550096317359698913903566127106, 2382070058471034780804626777261624786946], [2722352425391973244249554640619683446786, 3062634792312911707694482503977742106626, 3402917159233850171139410367335800766466, 3743199526154788634584338230693859426306, 62308988846980699127643835075657730, 98682400552234050471345918796890115, 98682400552234032024601845087338498, 340381049321490697476952465203145998338], [680663416242429160921880328561204658178, 1020945783163367624366808191919263318018, 1361228150084306087811736055277321977858, 1701510517005244551256663918635380637698, 2041792883926183014701591781993439297538, 2382075250847121478146519645351497957378, 2722357617768059941591447508709556617218, 3062639984688998405036375372067615277058], [3402922351609936868481303235425673936898, 3743204718530875331926231098783732596738, 62309068076352139211596057794314242, 103874776638931392364214008670060547, 103874776638931373917469934960508930, 340386241697577394818845333293019168770, 680668608618515858263773196651077828610, 1020950975539454321708701060009136488450], [1361233342460392785153628923367195148290, 1701515709381331248598556786725253808130, 2041798076302269712043484650083312467970, 2382080443223208175488412513441371127810, 2722362810144146638933340376799429787650, 3062645177065085102378268240157488447490, 3402927543986023565823196103515547107330, 3743209910906962029268123966873605767170]]
noncomputable def vd_726_0_5 : List (List Nat) := [[62309147305723579295548280512970754, 109067152725628734257082098543230979, 109067152725628715810338024833679362, 340391434073664092160738201382892339202, 680673800994602555605666064740950999042, 1020956167915541019050593928099009658882, 1361238534836479482495521791457068318722, 1701520901757417945940449654815126978562], [2041803268678356409385377518173185638402, 2382085635599294872830305381531244298242, 2722368002520233336275233244889302958082, 3062650369441171799720161108247361617922, 3402932736362110263165088971605420277762, 3743215103283048726610016834963478937602, 62309226535095019379500503231627266, 114259528812326076149950188416401411], [114259528812326057703206114706849794, 340396626449750789502631069472765509634, 680678993370689252947558932830824169474, 1020961360291627716392486796188882829314, 1361243727212566179837414659546941489154, 1701526094133504643282342522905000148994, 2041808461054443106727270386263058808834, 2382090827975381570172198249621117468674], [2722373194896320033617126112979176128514, 3062655561817258497062053976337234788354, 3402937928738196960506981839695293448194, 3743220295659135423951909703053352108034, 62309305764466459463452725950283778, 119451904899023418042818278289571843, 119451904899023399596074204580020226, 340401818825837486844523937562638680066], [680684185746775950289451800920697339906, 1020966552667714413734379664278755999746, 1361248919588652877179307527636814659586, 1701531286509591340624235390994873319426, 2041813653430529804069163254352931979266, 2382096020351468267514091117710990639106, 2722378387272406730959018981069049298946, 3062660754193345194403946844427107958786], [3402943121114283657848874707785166618626, 3743225488035222121293802571143225278466, 62309384993837899547404948668940290, 124644280985720759935686368162742275, 124644280985720741488942294453190658, 340407011201924184186416805652511850498, 680689378122862647631344669010570510338, 1020971745043801111076272532368629170178], [1361254111964739574521200395726687830018, 1701536478885678037966128259084746489858, 2041818845806616501411056122442805149698, 2382101212727554964855983985800863809538, 2722383579648493428300911849158922469378, 3062665946569431891745839712516981129218, 3402948313490370355190767575875039789058, 3743230680411308818635695439233098448898], [62309464223209339631357171387596802, 30229970882781868866928643, 95701492081623040]]
noncomputable def vd_726_0 : List (List (List Nat)) := [vd_726_0_0, vd_726_0_1, vd_726_0_2, vd_726_0_3, vd_726_0_4, vd_726_0_5]
noncomputable def vd_726 : List (List (List (List Nat))) := [vd_726_0]
noncomputable def vt_726 : List (List am_I) := [[(.ofNat 13, .ofNat 2147483647), (.ofNat 0, .ofNat 12), (.negSucc 2147483647, .negSucc 0), (.negSucc 0, .negSucc 0), (.negSucc 3, .negSucc 3), (.negSucc 0, .ofNat 6), (.negSucc 3, .ofNat 0), (.negSucc 0, .ofNat 8)], [(.negSucc 3, .ofNat 1), (.negSucc 3, .ofNat 2), (.negSucc 3, .ofNat 3), (.negSucc 3, .ofNat 4), (.negSucc 3, .ofNat 5), (.negSucc 3, .ofNat 6), (.negSucc 3, .ofNat 7), (.negSucc 3, .ofNat 8)], [(.negSucc 3, .ofNat 9), (.negSucc 3, .ofNat 10), (.negSucc 3, .ofNat 11), (.negSucc 3, .ofNat 12), (.negSucc 3, .ofNat 13), (.negSucc 3, .ofNat 14), (.negSucc 3, .ofNat 15), (.negSucc 3, .ofNat 16)], [(.negSucc 3, .ofNat 17), (.negSucc 3, .ofNat 18), (.negSucc 3, .ofNat 19), (.negSucc 3, .ofNat 20), (.negSucc 3, .ofNat 21), (.negSucc 3, .ofNat 22), (.negSucc 3, .ofNat 23), (.ofNat 0, .ofNat 6)], [(.negSucc 3, .ofNat 24)]]
noncomputable def vc_726 : vm_C := (fun _ => vp_726, fun pc => (match Nat.beq pc 0 with
  | true => [(fun _ _ => some (.inl 2), fun _ _ => some [.ofNat 0, .ofNat 13])]
  | false => []), [46, 139], 379, vm_inst 16 338 vt_726 vf_726 vd_726)
theorem vx_726_0 : vm_chk bt_209 [] vk_726 53 vc_726 0 6 = true := by decide +kernel
theorem vx_726_1 : vm_chk bt_209 [] vk_726 53 vc_726 6 4 = true := by decide +kernel
theorem vx_726_2 : vm_chk bt_209 [] vk_726 53 vc_726 10 4 = true := by decide +kernel
theorem vx_726_3 : vm_chk bt_209 [] vk_726 53 vc_726 14 4 = true := by decide +kernel
theorem vx_726_4 : vm_chk bt_209 [] vk_726 53 vc_726 18 4 = true := by decide +kernel
theorem vx_726_5 : vm_chk bt_209 [] vk_726 53 vc_726 22 4 = true := by decide +kernel
theorem vx_726_6 : vm_chk bt_209 [] vk_726 53 vc_726 26 7 = true := by decide +kernel
theorem vx_726_7 : vm_chk bt_209 [] vk_726 53 vc_726 33 8 = true := by decide +kernel
theorem vx_726_8 : vm_chk bt_209 [] vk_726 53 vc_726 41 5 = true := by decide +kernel
theorem vx_726_9 : vm_chk bt_209 [] vk_726 53 vc_726 46 5 = true := by decide +kernel
theorem vx_726_10 : vm_chk bt_209 [] vk_726 53 vc_726 51 5 = true := by decide +kernel
theorem vx_726_11 : vm_chk bt_209 [] vk_726 53 vc_726 56 5 = true := by decide +kernel
theorem vx_726_12 : vm_chk bt_209 [] vk_726 53 vc_726 61 5 = true := by decide +kernel
theorem vx_726_13 : vm_chk bt_209 [] vk_726 53 vc_726 66 5 = true := by decide +kernel
theorem vx_726_14 : vm_chk bt_209 [] vk_726 53 vc_726 71 5 = true := by decide +kernel
theorem vx_726_15 : vm_chk bt_209 [] vk_726 53 vc_726 76 5 = true := by decide +kernel
theorem vx_726_16 : vm_chk bt_209 [] vk_726 53 vc_726 81 5 = true := by decide +kernel
theorem vx_726_17 : vm_chk bt_209 [] vk_726 53 vc_726 86 5 = true := by decide +kernel
theorem vx_726_18 : vm_chk bt_209 [] vk_726 53 vc_726 91 5 = true := by decide +kernel
theorem vx_726_19 : vm_chk bt_209 [] vk_726 53 vc_726 96 5 = true := by decide +kernel
theorem vx_726_20 : vm_chk bt_209 [] vk_726 53 vc_726 101 5 = true := by decide +kernel
theorem vx_726_21 : vm_chk bt_209 [] vk_726 53 vc_726 106 5 = true := by decide +kernel
theorem vx_726_22 : vm_chk bt_209 [] vk_726 53 vc_726 111 5 = true := by decide +kernel
theorem vx_726_23 : vm_chk bt_209 [] vk_726 53 vc_726 116 5 = true := by decide +kernel
theorem vx_726_24 : vm_chk bt_209 [] vk_726 53 vc_726 121 5 = true := by decide +kernel
theorem vx_726_25 : vm_chk bt_209 [] vk_726 53 vc_726 126 5 = true := by decide +kernel
theorem vx_726_26 : vm_chk bt_209 [] vk_726 53 vc_726 131 5 = true := by decide +kernel
theorem vx_726_27 : vm_chk bt_209 [] vk_726 53 vc_726 136 5 = true := by decide +kernel
theorem vx_726_28 : vm_chk bt_209 [] vk_726 53 vc_726 141 5 = true := by decide +kernel
theorem vx_726_29 : vm_chk bt_209 [] vk_726 53 vc_726 146 5 = true := by decide +kernel
theorem vx_726_30 : vm_chk bt_209 [] vk_726 53 vc_726 151 5 = true := by decide +kernel
theorem vx_726_31 : vm_chk bt_209 [] vk_726 53 vc_726 156 5 = true := by decide +kernel
theorem vx_726_32 : vm_chk bt_209 [] vk_726 53 vc_726 161 5 = true := by decide +kernel
theorem vx_726_33 : vm_chk bt_209 [] vk_726 53 vc_726 166 5 = true := by decide +kernel
theorem vx_726_34 : vm_chk bt_209 [] vk_726 53 vc_726 171 5 = true := by decide +kernel
theorem vx_726_35 : vm_chk bt_209 [] vk_726 53 vc_726 176 5 = true := by decide +kernel
theorem vx_726_36 : vm_chk bt_209 [] vk_726 53 vc_726 181 5 = true := by decide +kernel
theorem vx_726_37 : vm_chk bt_209 [] vk_726 53 vc_726 186 5 = true := by decide +kernel
theorem vx_726_38 : vm_chk bt_209 [] vk_726 53 vc_726 191 5 = true := by decide +kernel
theorem vx_726_39 : vm_chk bt_209 [] vk_726 53 vc_726 196 5 = true := by decide +kernel
theorem vx_726_40 : vm_chk bt_209 [] vk_726 53 vc_726 201 5 = true := by decide +kernel
theorem vx_726_41 : vm_chk bt_209 [] vk_726 53 vc_726 206 5 = true := by decide +kernel
theorem vx_726_42 : vm_chk bt_209 [] vk_726 53 vc_726 211 5 = true := by decide +kernel
theorem vx_726_43 : vm_chk bt_209 [] vk_726 53 vc_726 216 5 = true := by decide +kernel
theorem vx_726_44 : vm_chk bt_209 [] vk_726 53 vc_726 221 5 = true := by decide +kernel
theorem vx_726_45 : vm_chk bt_209 [] vk_726 53 vc_726 226 5 = true := by decide +kernel
theorem vx_726_46 : vm_chk bt_209 [] vk_726 53 vc_726 231 5 = true := by decide +kernel
theorem vx_726_47 : vm_chk bt_209 [] vk_726 53 vc_726 236 5 = true := by decide +kernel
theorem vx_726_48 : vm_chk bt_209 [] vk_726 53 vc_726 241 5 = true := by decide +kernel
theorem vx_726_49 : vm_chk bt_209 [] vk_726 53 vc_726 246 5 = true := by decide +kernel
theorem vx_726_50 : vm_chk bt_209 [] vk_726 53 vc_726 251 5 = true := by decide +kernel
theorem vx_726_51 : vm_chk bt_209 [] vk_726 53 vc_726 256 5 = true := by decide +kernel
theorem vx_726_52 : vm_chk bt_209 [] vk_726 53 vc_726 261 5 = true := by decide +kernel
theorem vx_726_53 : vm_chk bt_209 [] vk_726 53 vc_726 266 5 = true := by decide +kernel
theorem vx_726_54 : vm_chk bt_209 [] vk_726 53 vc_726 271 5 = true := by decide +kernel
theorem vx_726_55 : vm_chk bt_209 [] vk_726 53 vc_726 276 5 = true := by decide +kernel
theorem vx_726_56 : vm_chk bt_209 [] vk_726 53 vc_726 281 5 = true := by decide +kernel
theorem vx_726_57 : vm_chk bt_209 [] vk_726 53 vc_726 286 5 = true := by decide +kernel
theorem vx_726_58 : vm_chk bt_209 [] vk_726 53 vc_726 291 5 = true := by decide +kernel
theorem vx_726_59 : vm_chk bt_209 [] vk_726 53 vc_726 296 5 = true := by decide +kernel
theorem vx_726_60 : vm_chk bt_209 [] vk_726 53 vc_726 301 5 = true := by decide +kernel
theorem vx_726_61 : vm_chk bt_209 [] vk_726 53 vc_726 306 5 = true := by decide +kernel
theorem vx_726_62 : vm_chk bt_209 [] vk_726 53 vc_726 311 5 = true := by decide +kernel
theorem vx_726_63 : vm_chk bt_209 [] vk_726 53 vc_726 316 5 = true := by decide +kernel
theorem vx_726_64 : vm_chk bt_209 [] vk_726 53 vc_726 321 5 = true := by decide +kernel
theorem vx_726_65 : vm_chk bt_209 [] vk_726 53 vc_726 326 5 = true := by decide +kernel
theorem vx_726_66 : vm_chk bt_209 [] vk_726 53 vc_726 331 5 = true := by decide +kernel
theorem vx_726_67 : vm_chk bt_209 [] vk_726 53 vc_726 336 5 = true := by decide +kernel
theorem vx_726_68 : vm_chk bt_209 [] vk_726 53 vc_726 341 5 = true := by decide +kernel
theorem vx_726_69 : vm_chk bt_209 [] vk_726 53 vc_726 346 5 = true := by decide +kernel
theorem vx_726_70 : vm_chk bt_209 [] vk_726 53 vc_726 351 5 = true := by decide +kernel
theorem vx_726_71 : vm_chk bt_209 [] vk_726 53 vc_726 356 5 = true := by decide +kernel
theorem vx_726_72 : vm_chk bt_209 [] vk_726 53 vc_726 361 5 = true := by decide +kernel
theorem vx_726_73 : vm_chk bt_209 [] vk_726 53 vc_726 366 5 = true := by decide +kernel
theorem vx_726_74 : vm_chk bt_209 [] vk_726 53 vc_726 371 5 = true := by decide +kernel
theorem vx_726_75 : vm_chk bt_209 [] vk_726 53 vc_726 376 3 = true := by decide +kernel
theorem vy_726 : vm_ents 209 53 vc_726 ve_726 = true := by decide +kernel
theorem vgr_726_0 (i : Nat) : i < 201 → ∃ lo k, lo ≤ i ∧ i < lo + k ∧ vm_chk bt_209 [] vk_726 53 vc_726 lo k = true := vm_hc vx_726_39 rfl (vm_hc vx_726_38 rfl (vm_hc vx_726_37 rfl (vm_hc vx_726_36 rfl (vm_hc vx_726_35 rfl (vm_hc vx_726_34 rfl (vm_hc vx_726_33 rfl (vm_hc vx_726_32 rfl (vm_hc vx_726_31 rfl (vm_hc vx_726_30 rfl (vm_hc vx_726_29 rfl (vm_hc vx_726_28 rfl (vm_hc vx_726_27 rfl (vm_hc vx_726_26 rfl (vm_hc vx_726_25 rfl (vm_hc vx_726_24 rfl (vm_hc vx_726_23 rfl (vm_hc vx_726_22 rfl (vm_hc vx_726_21 rfl (vm_hc vx_726_20 rfl (vm_hc vx_726_19 rfl (vm_hc vx_726_18 rfl (vm_hc vx_726_17 rfl (vm_hc vx_726_16 rfl (vm_hc vx_726_15 rfl (vm_hc vx_726_14 rfl (vm_hc vx_726_13 rfl (vm_hc vx_726_12 rfl (vm_hc vx_726_11 rfl (vm_hc vx_726_10 rfl (vm_hc vx_726_9 rfl (vm_hc vx_726_8 rfl (vm_hc vx_726_7 rfl (vm_hc vx_726_6 rfl (vm_hc vx_726_5 rfl (vm_hc vx_726_4 rfl (vm_hc vx_726_3 rfl (vm_hc vx_726_2 rfl (vm_hc vx_726_1 rfl (vm_hc vx_726_0 rfl (fun h => absurd h (Nat.not_lt_zero _)))))))))))))))))))))))))))))))))))))))))
theorem vgr_726_1 (i : Nat) : i < 379 → ∃ lo k, lo ≤ i ∧ i < lo + k ∧ vm_chk bt_209 [] vk_726 53 vc_726 lo k = true := vm_hc vx_726_75 rfl (vm_hc vx_726_74 rfl (vm_hc vx_726_73 rfl (vm_hc vx_726_72 rfl (vm_hc vx_726_71 rfl (vm_hc vx_726_70 rfl (vm_hc vx_726_69 rfl (vm_hc vx_726_68 rfl (vm_hc vx_726_67 rfl (vm_hc vx_726_66 rfl (vm_hc vx_726_65 rfl (vm_hc vx_726_64 rfl (vm_hc vx_726_63 rfl (vm_hc vx_726_62 rfl (vm_hc vx_726_61 rfl (vm_hc vx_726_60 rfl (vm_hc vx_726_59 rfl (vm_hc vx_726_58 rfl (vm_hc vx_726_57 rfl (vm_hc vx_726_56 rfl (vm_hc vx_726_55 rfl (vm_hc vx_726_54 rfl (vm_hc vx_726_53 rfl (vm_hc vx_726_52 rfl (vm_hc vx_726_51 rfl (vm_hc vx_726_50 rfl (vm_hc vx_726_49 rfl (vm_hc vx_726_48 rfl (vm_hc vx_726_47 rfl (vm_hc vx_726_46 rfl (vm_hc vx_726_45 rfl (vm_hc vx_726_44 rfl (vm_hc vx_726_43 rfl (vm_hc vx_726_42 rfl (vm_hc vx_726_41 rfl (vm_hc vx_726_40 rfl (vgr_726_0 i))))))))))))))))))))))))))))))))))))
theorem vw_726 : ∀ q ∈ vk_726, vm_wt 6 q := vm_wts (vm_kc (vm_up v_659 rfl) (vm_kc (vm_up v_662 rfl) (vm_kc (vm_up v_658 rfl) (vm_kc (vm_up v_725 rfl) (vm_kc (vm_up v_637 rfl) (vm_kc (vm_up v_482 rfl) (vm_kc (vm_up v_666 rfl) (vm_kc (vm_up v_668 rfl) (vm_kc (vm_up v_670 rfl) (vm_kc (vm_up v_672 rfl) (vm_kc (vm_up v_674 rfl) (vm_kc (vm_up v_676 rfl) (vm_kc (vm_up v_678 rfl) (vm_kc (vm_up v_680 rfl) (vm_kc (vm_up v_682 rfl) (vm_kc (vm_up v_684 rfl) (vm_kc (vm_up v_686 rfl) (vm_kc (vm_up v_688 rfl) (vm_kc (vm_up v_690 rfl) (vm_kc (vm_up v_692 rfl) (vm_kc (vm_up v_694 rfl) (vm_kc (vm_up v_696 rfl) (vm_kc (vm_up v_698 rfl) (vm_kc (vm_up v_700 rfl) (vm_kc (vm_up v_702 rfl) (vm_kc (vm_up v_704 rfl) (vm_kc (vm_up v_706 rfl) (vm_kc (vm_up v_708 rfl) (vm_kc (vm_up v_710 rfl) (vm_kc (vm_up v_712 rfl) (vm_kc (vm_up v_714 rfl) (vm_kc (vm_up v_667 rfl) (vm_kc (vm_up v_669 rfl) (vm_kc (vm_up v_671 rfl) (vm_kc (vm_up v_673 rfl) (vm_kc (vm_up v_675 rfl) (vm_kc (vm_up v_677 rfl) (vm_kc (vm_up v_679 rfl) (vm_kc (vm_up v_681 rfl) (vm_kc (vm_up v_683 rfl) (vm_kc (vm_up v_685 rfl) (vm_kc (vm_up v_687 rfl) (vm_kc (vm_up v_689 rfl) (vm_kc (vm_up v_691 rfl) (vm_kc (vm_up v_693 rfl) (vm_kc (vm_up v_695 rfl) (vm_kc (vm_up v_697 rfl) (vm_kc (vm_up v_699 rfl) (vm_kc (vm_up v_701 rfl) (vm_kc (vm_up v_703 rfl) (vm_kc (vm_up v_705 rfl) (vm_kc (vm_up v_707 rfl) (vm_kc (vm_up v_709 rfl) (vm_kc (vm_up v_711 rfl) (vm_kc (vm_up v_713 rfl) (vm_kc (vm_up v_715 rfl) (vm_kc (vm_up v_558 rfl) (vm_kc (vm_up v_559 rfl) vm_kn)))))))))))))))))))))))))))))))))))))))))))))))))))))))))) (by decide +kernel)
theorem v_726 : vm_at 7 q_726 := vm_ok (inl := []) (es := ve_726) bq_209 (by decide) vw_726 vy_726 (fun i => vgr_726_1 i) _ List.mem_cons_self
noncomputable def vp_727 : List vm_R := [(some (.inl (.ofNat 0, .ofNat 1)), va_h0)]
noncomputable def ve_727 : List vm_E := [([.inr (.inl am_top), .inr (.inl (.ofNat 0, .ofNat 0)), .inr (.inl (.ofNat 10, .ofNat 10))], va_h0, 0, [0])]
noncomputable def q_727 : vm_Q := (149, [.inr (.inl am_top), .inr (.inl (.ofNat 0, .ofNat 0)), .inr (.inl (.ofNat 10, .ofNat 10))], va_h0, vp_727)
noncomputable def vk_727 : List vm_U := []
noncomputable def vf_727 : List ((Nat → am_I) → vm_A) := [fun v => (0, [(0, .inr (.inl am_top)), (2, .inr (.inl (.ofNat 0, .ofNat 0))), (4, .inr (.inl (.ofNat 10, .ofNat 10)))], [], (80, []))]
noncomputable def vd_727_0_0 : List (List Nat) := [[0]]
noncomputable def vd_727_0 : List (List (List Nat)) := [vd_727_0_0]
noncomputable def vd_727 : List (List (List (List Nat))) := [vd_727_0]
noncomputable def vt_727 : List (List am_I) := []
noncomputable def vc_727 : vm_C := (fun _ => vp_727, fun pc => [], [], 1, vm_inst 8 1 vt_727 vf_727 vd_727)
theorem vx_727_0 : vm_chk bt_149 [] vk_727 13 vc_727 0 1 = true := by decide +kernel
theorem vy_727 : vm_ents 149 13 vc_727 ve_727 = true := by decide +kernel
theorem vw_727 : ∀ q ∈ vk_727, vm_wt 1 q := vm_wts vm_kn (by decide +kernel)
theorem v_727 : vm_at 2 q_727 := vm_ok (inl := []) (es := ve_727) bq_149 (by decide) vw_727 vy_727 (fun i => vm_hc vx_727_0 rfl (fun h => absurd h (Nat.not_lt_zero _))) _ List.mem_cons_self
noncomputable def va_c49 : am_C := .inr (.inr (.inr (7, [.inr (.inr (some 71)), .inr (.inr (some 72)), .inl (.ofNat 2, .ofNat 5), .inl (.ofNat 2, .ofNat 5), .inl (.ofNat 0, .ofNat 0), .inr (.inr (some 73)), .inl (.ofNat 0, .ofNat 5), .inl (.ofNat 0, .ofNat 5), .inl (.ofNat 0, .ofNat 5), .inl am_top, .inl am_top, .inl am_top, .inr (.inr (some 74)), .inl (.ofNat 0, .ofNat 160), .inl (.ofNat 0, .ofNat 160), .inl (.ofNat 0, .ofNat 160), .inl (.ofNat 0, .ofNat 3), .inl am_top, .inl (.ofNat 0, .ofNat 6), .inl am_top, .inr (.inr (some 75)), .inr (.inr (some 76)), .inr (.inr (some 77)), .inr (.inr (some 78)), .inr (.inr (some 79)), .inr (.inr (some 80)), .inr (.inr (some 81)), .inl (.negSucc 0, .ofNat 6), .inr (.inr (some 82)), .inr (.inr (some 83)), .inr (.inr (some 84)), .inr (.inr (some 85)), .inr (.inr (some 86)), .inl am_top, .inr (.inr (some 87))])))
noncomputable def vp_728 : List vm_R := [(some (.inr (.inl am_topl)), va_h0)]
noncomputable def ve_728 : List vm_E := [([.inr (.inr (some 70)), .inl am_top, .inl am_top, .inl am_top], va_h0, 0, [0, 1, 413])]
noncomputable def q_728 : vm_Q := (210, [.inr (.inr (some 70)), .inl am_top, .inl am_top, .inl am_top], va_h0, vp_728)
noncomputable def vk_728 : List vm_U := [(q_659, true, []), (q_662, true, []), (q_658, true, []), (q_727, true, []), (q_637, true, []), (q_482, false, [(7, 62, 4)]), (q_537, true, []), (q_561, false, [(7, 62, 4)]), (q_common, true, [])]
noncomputable def vf_728 : List ((Nat → am_I) → vm_A) := [fun v => (0, [(0, .inr (.inr (some 70))), (1, .inl am_top), (2, .inl (v 0)), (3, .inl am_top)], [], (80, [])), fun v => (47, [(0, .inr (.inr (some 70))), (1, .inl am_top), (2, .inl (.ofNat 0, .ofNat 12)), (3, .inl am_top), (4, .inr (.inl (.ofNat 0, .ofNat 0))), (6, .inr (.inl (v 0))), (8, .inl (v 1))], [], (80, [(62, .inr (.inr (.inr (7, [.inr (.inr (some 71)), .inr (.inr (some 72)), .inl (.ofNat 2, .ofNat 5), .inl (.ofNat 2, .ofNat 5), .inl (v 2), .inr (.inr (some 73)), .inl (.ofNat 0, .ofNat 5), .inl (.ofNat 0, .ofNat 5), .inl (.ofNat 0, .ofNat 5), .inl am_top, .inl am_top, .inl am_top, .inr (.inr (some 74)), .inl (.ofNat 0, .ofNat 160), .inl (.ofNat 0, .ofNat 160), .inl (.ofNat 0, .ofNat 160), .inl (.ofNat 0, .ofNat 3), .inl am_top, .inl (.ofNat 0, .ofNat 6), .inl am_top, .inr (.inr (some 75)), .inr (.inr (some 76)), .inr (.inr (some 77)), .inr (.inr (some 78)), .inr (.inr (some 79)), .inr (.inr (some 80)), .inr (.inr (some 81)), .inl (.negSucc 0, .ofNat 6), .inr (.inr (some 82)), .inr (.inr (some 83)), .inr (.inr (some 84)), .inr (.inr (some 85)), .inr (.inr (some 86)), .inl am_top, .inr (.inr (some 87))]))))])), fun v => (73, [(0, .inr (.inr (some 70))), (1, .inl am_top), (2, .inl (.ofNat 0, .ofNat 12)), (3, .inl am_top), (4, .inr (.inl (.ofNat 0, .ofNat 0))), (6, .inr (.inl (v 0))), (8, .inl (.ofNat 0, .ofNat 0))], [], (80, [(62, .inr (.inr (.inr (7, [.inr (.inr (some 71)), .inr (.inr (some 72)), .inl (.ofNat 2, .ofNat 5), .inl (.ofNat 2, .ofNat 5), .inl (v 1), .inr (.inr (some 73)), .inl (.ofNat 0, .ofNat 5), .inl (.ofNat 0, .ofNat 5), .inl (.ofNat 0, .ofNat 5), .inl am_top, .inl am_top, .inl am_top, .inr (.inr (some 74)), .inl (.ofNat 0, .ofNat 160), .inl (.ofNat 0, .ofNat 160), .inl (.ofNat 0, .ofNat 160), .inl (.ofNat 0, .ofNat 3), .inl am_top, .inl (.ofNat 0, .ofNat 6), .inl am_top, .inr (.inr (some 75)), .inr (.inr (some 76)), .inr (.inr (some 77)), .inr (.inr (some 78)), .inr (.inr (some 79)), .inr (.inr (some 80)), .inr (.inr (some 81)), .inl (.negSucc 0, .ofNat 6), .inr (.inr (some 82)), .inr (.inr (some 83)), .inr (.inr (some 84)), .inr (.inr (some 85)), .inr (.inr (some 86)), .inl am_top, .inr (.inr (some 87))]))))])), fun v => (94, [(0, .inr (.inr (some 70))), (1, .inl am_top), (2, .inl (.ofNat 0, .ofNat 12)), (3, .inl am_top), (4, .inr (.inl (.ofNat 0, .ofNat 0))), (6, .inr (.inl (v 0))), (8, .inl (.ofNat 0, .ofNat 0)), (9, .inr (.inl (.ofNat 1, .ofNat 1))), (11, .inl (.ofNat 0, .ofNat 0))], [], (80, [(62, .inr (.inr (.inr (7, [.inr (.inr (some 71)), .inr (.inr (some 72)), .inl (.ofNat 2, .ofNat 5), .inl (.ofNat 2, .ofNat 5), .inl (v 1), .inr (.inr (some 73)), .inl (.ofNat 0, .ofNat 5), .inl (.ofNat 0, .ofNat 5), .inl (.ofNat 0, .ofNat 5), .inl am_top, .inl am_top, .inl am_top, .inr (.inr (some 74)), .inl (.ofNat 0, .ofNat 160), .inl (.ofNat 0, .ofNat 160), .inl (.ofNat 0, .ofNat 160), .inl (.ofNat 0, .ofNat 3), .inl am_top, .inl (.ofNat 0, .ofNat 6), .inl am_top, .inr (.inr (some 75)), .inr (.inr (some 76)), .inr (.inr (some 77)), .inr (.inr (some 78)), .inr (.inr (some 79)), .inr (.inr (some 80)), .inr (.inr (some 81)), .inl (.negSucc 0, .ofNat 6), .inr (.inr (some 82)), .inr (.inr (some 83)), .inr (.inr (some 84)), .inr (.inr (some 85)), .inr (.inr (some 86)), .inl am_top, .inr (.inr (some 87))]))))])), fun v => (94, [(0, .inr (.inr (some 70))), (1, .inl am_top), (2, .inl (.ofNat 0, .ofNat 12)), (3, .inl am_top), (4, .inr (.inl (v 0))), (6, .inr (.inl (v 1))), (8, .inl (v 2)), (9, .inr (.inl (v 3))), (11, .inl (v 4)), (12, .inl am_top)], [], (80, [(62, .inr (.inr (.inr (7, [.inr (.inr (some 71)), .inr (.inr (some 72)), .inl (.ofNat 2, .ofNat 5), .inl (.ofNat 2, .ofNat 5), .inl (v 5), .inr (.inr (some 73)), .inl (.ofNat 0, .ofNat 5), .inl (.ofNat 0, .ofNat 5), .inl (.ofNat 0, .ofNat 5), .inl am_top, .inl am_top, .inl am_top, .inr (.inr (some 74)), .inl (.ofNat 0, .ofNat 160), .inl (.ofNat 0, .ofNat 160), .inl (.ofNat 0, .ofNat 160), .inl (.ofNat 0, .ofNat 3), .inl am_top, .inl (.ofNat 0, .ofNat 6), .inl am_top, .inr (.inr (some 75)), .inr (.inr (some 76)), .inr (.inr (some 77)), .inr (.inr (some 78)), .inr (.inr (some 79)), .inr (.inr (some 80)), .inr (.inr (some 81)), .inl (.negSucc 0, .ofNat 6), .inr (.inr (some 82)), .inr (.inr (some 83)), .inr (.inr (some 84)), .inr (.inr (some 85)), .inr (.inr (some 86)), .inl am_top, .inr (.inr (some 87))]))))])), fun v => (73, [(0, .inr (.inr (some 70))), (1, .inl am_top), (2, .inl (.ofNat 0, .ofNat 12)), (3, .inl am_top), (4, .inr (.inl am_topl)), (6, .inr (.inl (v 0))), (8, .inl (v 1)), (9, .inr (.inl am_topl)), (11, .inl am_top), (12, .inl am_top)], [], (80, [(62, .inr (.inr (.inr (7, [.inr (.inr (some 71)), .inr (.inr (some 72)), .inl (.ofNat 2, .ofNat 5), .inl (.ofNat 2, .ofNat 5), .inl (v 2), .inr (.inr (some 73)), .inl (.ofNat 0, .ofNat 5), .inl (.ofNat 0, .ofNat 5), .inl (.ofNat 0, .ofNat 5), .inl am_top, .inl am_top, .inl am_top, .inr (.inr (some 74)), .inl (.ofNat 0, .ofNat 160), .inl (.ofNat 0, .ofNat 160), .inl (.ofNat 0, .ofNat 160), .inl (.ofNat 0, .ofNat 3), .inl am_top, .inl (.ofNat 0, .ofNat 6), .inl am_top, .inr (.inr (some 75)), .inr (.inr (some 76)), .inr (.inr (some 77)), .inr (.inr (some 78)), .inr (.inr (some 79)), .inr (.inr (some 80)), .inr (.inr (some 81)), .inl (.negSucc 0, .ofNat 6), .inr (.inr (some 82)), .inr (.inr (some 83)), .inr (.inr (some 84)), .inr (.inr (some 85)), .inr (.inr (some 86)), .inl am_top, .inr (.inr (some 87))]))))])), fun v => (73, [(0, .inr (.inr (some 70))), (1, .inl am_top), (2, .inl (.ofNat 0, .ofNat 12)), (3, .inl am_top), (4, .inr (.inl (.ofNat 0, .ofNat 1))), (6, .inr (.inl (.ofNat 1, .ofNat 1))), (8, .inl (.ofNat 1, .ofNat 1)), (9, .inr (.inl am_topl)), (11, .inl am_top)], [], (80, [(62, va_c49)]))]
noncomputable def vd_728_0_0 : List (List Nat) := [[2815031242083270656, 223052191972693193581939752103698436978974392320, 396140812589768432045724270593, 396142021681608743338284941313, 396143232267635324601319292929, 396144457795524605569090453505, 396145832742040883584229703681, 396147041741647474508242616321], [6229170325786540522864642, 6229170325786540522864643, 111504118223950118381186377610215281200726020, 111504458506317039319649840984822712968937476, 111504798788683960258113304359430144737148932, 111505139071050881196576767734037576505360388, 111505479353417802135040231108645008273571844, 396142206038369015991543791621], [111503725997845503888654392355317629522542596, 111504118223950197609533451549010338808594436, 111504458506317118547996914923617770576805892, 111504798788684039486460378298225202345017348, 111505139071050960424923841672832634113228804, 111505479353417881363387305047440065881440260, 396143414964188630620718497797, 111503725997845583116816906619655223066492932], [111504118223950276837695965813347932352544772, 111504458506317197776159429187955364120756228, 111504798788684118714622892562562795888967684, 111505139071051039653086355937170227657179140, 111505479353417960591549819311777659425390596, 396144623890008245249893203973, 111503725997845662344979420883992816610443268, 111504118223950356065858480077685525896495108], [111504458506317277004321943452292957664706564, 111504798788684197942785406826900389432918020, 111505139071051118881248870201507821201129476, 111505479353418039819712333576115252969340932, 396145832815827859879067910149, 111503725997845741573141935148330410154393604, 111504118223950435294020994342023119440445444, 111504458506317356232484457716630551208656900], [111504798788684277170947921091237982976868356, 111505139071051198109411384465845414745079812, 111505479353418119047874847840452846513291268, 396147041741647474508242616325, 111503725997845820801304449412668003698343940, 111504118223950514522183508606360712984395780, 111504458506317435460646971980968144752607236, 111504798788684356399110435355575576520818692], [111505139071051277337573898730183008289030148, 111505479353418198276037362104790440057241604, 396148250667467089137417322501, 111503725997845900029466963677005597242294276, 111504118223950593750346022870698306528346116, 111504458506317514688809486245305738296557572, 111504798788684435627272949619913170064769028, 111505139071051356565736412994520601832980484], [111505479353418277504199876369128033601191940, 396149459593286703766592028677, 111503725997845979257629477941343190786244612, 111504118223950672978508537135035900072296452, 111504458506317593916972000509643331840507908, 111504798788684514855435463884250763608719364, 111505139071051435793898927258858195376930820, 111505479353418356732362390633465627145142276]]
noncomputable def vd_728_0_1 : List (List Nat) := [[396150668519106318395766734853, 111503725997846058485791992205680784330194948, 111504118223950752206671051399373493616246788, 111504458506317673145134514773980925384458244, 111504798788684594083597978148588357152669700, 111505139071051515022061441523195788920881156, 111505479353418435960524904897803220689092612, 396151877444925933024941441029], [111503725997846137713954506470018377874145284, 111504118223950831434833565663711087160197124, 111504458506317752373297029038318518928408580, 111504798788684673311760492412925950696620036, 111505139071051594250223955787533382464831492, 111505479353418515188687419162140814233042948, 396153086370745547654116147205, 111503725997846216942117020734355971418095620], [111504118223950910662996079928048680704147460, 111504458506317831601459543302656112472358916, 111504798788684752539923006677263544240570372, 111505139071051673478386470051870976008781828, 111505479353418594416849933426478407776993284, 396154295296565162283290853381, 111503725997846296170279534998693564962045956, 111504118223950989891158594192386274248097796], [111504458506317910829622057566993706016309252, 111504798788684831768085520941601137784520708, 111505139071051752706548984316208569552732164, 111505479353418673645012447690816001320943620, 396155504222384776912465559557, 111503725997846375398442049263031158505996292, 111504118223951069119321108456723867792048132, 111504458506317990057784571831331299560259588], [111504798788684910996248035205938731328471044, 111505139071051831934711498580546163096682500, 111505479353418752873174961955153594864893956, 396156713148204391541640265733, 111503725997846454626604563527368752049946628, 111504118223951148347483622721061461335998468, 111504458506318069285947086095668893104209924, 111504798788684990224410549470276324872421380], [111505139071051911162874012844883756640632836, 111505479353418832101337476219491188408844292, 396157922074024006170814971909, 111503725997846533854767077791706345593896964, 111504118223951227575646136985399054879948804, 111504458506318148514109600360006486648160260, 111504798788685069452573063734613918416371716, 111505139071051990391036527109221350184583172], [111505479353418911329499990483828781952794628, 396159130999843620799989678085, 111503725997846613082929592056043939137847300, 111504118223951306803808651249736648423899140, 111504458506318227742272114624344080192110596, 111504798788685148680735577998951511960322052, 111505139071052069619199041373558943728533508, 111505479353418990557662504748166375496744964], [396160339925663235429164384261, 111503725997846692311092106320381532681797636, 111504118223951386031971165514074241967849476, 111504458506318306970434628888681673736060932, 111504798788685227908898092263289105504272388, 111505139071052148847361555637896537272483844, 111505479353419069785825019012503969040695300, 396161548851482850058339090437]]
noncomputable def vd_728_0_2 : List (List Nat) := [[111503725997846771539254620584719126225747972, 111504118223951465260133679778411835511799812, 111504458506318386198597143153019267280011268, 111504798788685307137060606527626699048222724, 111505139071052228075524069902234130816434180, 111505479353419149013987533276841562584645636, 396162757777302464687513796613, 111503725997846850767417134849056719769698308], [111504118223951544488296194042749429055750148, 111504458506318465426759657417356860823961604, 111504798788685386365223120791964292592173060, 111505139071052307303686584166571724360384516, 111505479353419228242150047541179156128595972, 396163966703122079316688502789, 111503725997846929995579649113394313313648644, 111504118223951623716458708307087022599700484], [111504458506318544654922171681694454367911940, 111504798788685465593385635056301886136123396, 111505139071052386531849098430909317904334852, 111505479353419307470312561805516749672546308, 396165175628941693945863208965, 111503725997847009223742163377731906857598980, 111504118223951702944621222571424616143650820, 111504458506318623883084685946032047911862276], [111504798788685544821548149320639479680073732, 111505139071052465760011612695246911448285188, 111505479353419386698475076069854343216496644, 396166384554761308575037915141, 111503725997847088451904677642069500401549316, 111504118223951782172783736835762209687601156, 111504458506318703111247200210369641455812612, 111504798788685624049710663584977073224024068], [111505139071052544988174126959584504992235524, 111505479353419465926637590334191936760446980, 396167593480580923204212621317, 111503725997847167680067191906407093945499652, 111504118223951861400946251100099803231551492, 111504458506318782339409714474707234999762948, 111504798788685703277873177849314666767974404, 111505139071052624216336641223922098536185860], [111505479353419545154800104598529530304397316, 396168802406400537833387327493, 111503725997847246908229706170744687489449988, 111504118223951940629108765364437396775501828, 111504458506318861567572228739044828543713284, 111504798788685782506035692113652260311924740, 111505139071052703444499155488259692080136196, 111505479353419624382962618862867123848347652], [396170011332220152462562033669, 111503725997847326136392220435082281033400324, 111504118223952019857271279628774990319452164, 111504458506318940795734743003382422087663620, 111504798788685861734198206377989853855875076, 111505139071052782672661669752597285624086532, 111505479353419703611125133127204717392297988, 396171220258039767091736739845], [111503725997847405364554734699419874577350660, 111504118223952099085433793893112583863402500, 111504458506319020023897257267720015631613956, 111504798788685940962360720642327447399825412, 111505139071052861900824184016934879168036868, 111505479353419782839287647391542310936248324, 396172429183859381720911446021, 111503725997847484592717248963757468121300996]]
noncomputable def vd_728_0_3 : List (List Nat) := [[111504118223952178313596308157450177407352836, 111504458506319099252059771532057609175564292, 111504798788686020190523234906665040943775748, 111505139071052941128986698281272472711987204, 111505479353419862067450161655879904480198660, 396173638109678996350086152197, 111503725997847563820879763228095061665251332, 111504118223952257541758822421787770951303172], [111504458506319178480222285796395202719514628, 111504798788686099418685749171002634487726084, 111505139071053020357149212545610066255937540, 111505479353419941295612675920217498024148996, 396174847035498610979260858373, 111503725997847643049042277492432655209201668, 111504118223952336769921336686125364495253508, 111504458506319257708384800060732796263464964], [111504798788686178646848263435340228031676420, 111505139071053099585311726809947659799887876, 111505479353420020523775190184555091568099332, 396176055961318225608435564549, 111503725997847722277204791756770248753152004, 111504118223952415998083850950462958039203844, 111504458506319336936547314325070389807415300, 111504798788686257875010777699677821575626756], [111505139071053178813474241074285253343838212, 111505479353420099751937704448892685112049668, 396177264887137840237610270725, 111503725997847801505367306021107842297102340, 111504118223952495226246365214800551583154180, 111504458506319416164709828589407983351365636, 111504798788686337103173291964015415119577092, 111505139071053258041636755338622846887788548], [111505479353420178980100218713230278656000004, 396178473812957454866784976901, 111503725997847880733529820285445435841052676, 111504118223952574454408879479138145127104516, 111504458506319495392872342853745576895315972, 111504798788686416331335806228353008663527428, 111505139071053337269799269602960440431738884, 111505479353420258208262732977567872199950340], [6045222209759171592585221, 316912650075504094452180320257, 316913859167344405744740990977, 316915069753370987007775342593, 316916295281260267975546503169, 316917670227776545990685753345, 5020170719195616509952002, 5020170719195616509952003], [89203373025419495234814956059108402995920900, 89203713307786416173278419433715834764132356, 89204053590153337111741882808323266532343812, 89204393872520258050205346182930698300555268, 316914043450317702103161634821, 89202980799314880742282970804210751317737476, 89203373025419574463162029997903460603789316, 89203713307786495401625493372510892372000772], [89204053590153416340088956747118324140212228, 89204393872520337278552420121725755908423684, 316915252376137316732336340997, 89202980799314959970445485068548344861687812, 89203373025419653691324544262241054147739652, 89203713307786574629788007636848485915951108, 89204053590153495568251471011455917684162564, 89204393872520416506714934386063349452374020]]
noncomputable def vd_728_0_4 : List (List Nat) := [[316916461301956931361511047173, 89202980799315039198607999332885938405638148, 89203373025419732919487058526578647691689988, 89203713307786653857950521901186079459901444, 89204053590153574796413985275793511228112900, 89204393872520495734877448650400942996324356, 316917670227776545990685753349, 89202980799315118426770513597223531949588484], [89203373025419812147649572790916241235640324, 89203713307786733086113036165523673003851780, 89204053590153654024576499540131104772063236, 89204393872520574963039962914738536540274692, 316918879153596160619860459525, 89202980799315197654933027861561125493538820, 89203373025419891375812087055253834779590660, 89203713307786812314275550429861266547802116], [89204053590153733252739013804468698316013572, 89204393872520654191202477179076130084225028, 316920088079415775249035165701, 89202980799315276883095542125898719037489156, 89203373025419970603974601319591428323540996, 89203713307786891542438064694198860091752452, 89204053590153812480901528068806291859963908, 89204393872520733419364991443413723628175364], [316921297005235389878209871877, 89202980799315356111258056390236312581439492, 89203373025420049832137115583929021867491332, 89203713307786970770600578958536453635702788, 89204053590153891709064042333143885403914244, 89204393872520812647527505707751317172125700, 316922505931055004507384578053, 89202980799315435339420570654573906125389828], [89203373025420129060299629848266615411441668, 89203713307787049998763093222874047179653124, 89204053590153970937226556597481478947864580, 89204393872520891875690019972088910716076036, 316923714856874619136559284229, 89202980799315514567583084918911499669340164, 89203373025420208288462144112604208955392004, 89203713307787129226925607487211640723603460], [89204053590154050165389070861819072491814916, 89204393872520971103852534236426504260026372, 316924923782694233765733990405, 89202980799315593795745599183249093213290500, 89203373025420287516624658376941802499342340, 89203713307787208455088121751549234267553796, 89204053590154129393551585126156666035765252, 89204393872521050332015048500764097803976708], [316926132708513848394908696581, 89202980799315673023908113447586686757240836, 89203373025420366744787172641279396043292676, 89203713307787287683250636015886827811504132, 89204053590154208621714099390494259579715588, 89204393872521129560177562765101691347927044, 316927341634333463024083402757, 89202980799315752252070627711924280301191172], [89203373025420445972949686905616989587243012, 89203713307787366911413150280224421355454468, 89204053590154287849876613654831853123665924, 89204393872521208788340077029439284891877380, 316928550560153077653258108933, 89202980799315831480233141976261873845141508, 89203373025420525201112201169954583131193348, 89203713307787446139575664544562014899404804]]
noncomputable def vd_728_0_5 : List (List Nat) := [[89204053590154367078039127919169446667616260, 89204393872521288016502591293776878435827716, 316929759485972692282432815109, 89202980799315910708395656240599467389091844, 89203373025420604429274715434292176675143684, 89203713307787525367738178808899608443355140, 89204053590154446306201642183507040211566596, 89204393872521367244665105558114471979778052], [316930968411792306911607521285, 89202980799315989936558170504937060933042180, 89203373025420683657437229698629770219094020, 89203713307787604595900693073237201987305476, 89204053590154525534364156447844633755516932, 89204393872521446472827619822452065523728388, 4836001241113463158210565, 237684487561239756858636369921], [237685696653080068151197040641, 237686907239106649414231392257, 237688132766995930382002552833, 3645224202917601370701826, 3645224202917601370701827, 66902627826888861212946861254797469134356484, 66902968109255782151410324629404900902567940, 66903308391622703089873788004012332670779396], [237685714915356701123653140485, 66902235600784246720414875999899817456173060, 66902627826888940441293935193592526742224900, 66902968109255861379757398568199958510436356, 66903308391622782318220861942807390278647812, 237686923841176315752827846661, 66902235600784325948577390264237411000123396, 66902627826889019669456449457930120286175236], [66902968109255940607919912832537552054386692, 66903308391622861546383376207144983822598148, 237688132766995930382002552837, 66902235600784405176739904528575004544073732, 66902627826889098897618963722267713830125572, 66902968109256019836082427096875145598337028, 66903308391622940774545890471482577366548484, 237689341692815545011177259013], [66902235600784484404902418792912598088024068, 66902627826889178125781477986605307374075908, 66902968109256099064244941361212739142287364, 66903308391623020002708404735820170910498820, 237690550618635159640351965189, 66902235600784563633064933057250191631974404, 66902627826889257353943992250942900918026244, 66902968109256178292407455625550332686237700], [66903308391623099230870919000157764454449156, 237691759544454774269526671365, 66902235600784642861227447321587785175924740, 66902627826889336582106506515280494461976580, 66902968109256257520569969889887926230188036, 66903308391623178459033433264495357998399492, 237692968470274388898701377541, 66902235600784722089389961585925378719875076], [66902627826889415810269020779618088005926916, 66902968109256336748732484154225519774138372, 66903308391623257687195947528832951542349828, 3626925314271453911187461, 158456325046975419265092419585, 158457534138815730557653090305, 158458744724842311820687441921, 2419696313636633599541250]]
noncomputable def vd_728_0_6 : List (List Nat) := [[2419696313636633599541251, 44601882628358236983377905328982850392817668, 44602222910725157921841368703590282161029124, 158457535799022697191512735749, 44601490402253622490845920074085198714634244, 44601882628358316211724979267777908000686084, 44602222910725237150188442642385339768897540, 158458744724842311820687441925], [44601490402253701719008434338422792258584580, 44601882628358395439887493532115501544636420, 44602222910725316378350956906722933312847876, 158459953650661926449862148101, 44601490402253780947170948602760385802534916, 44601882628358474668050007796453095088586756, 44602222910725395606513471171060526856798212, 2417925454353050858684421], [79228162532711081671548469249, 79229371624551392964109139969, 1209110287055370565189634, 1209110287055370565189635, 22301137429827613733038863291017863163281412, 79229371624551392964109139973, 22300745203722999240506878036120211485097988, 22301137429827692961385937229812920771149828], [1208962715917526360915973, 18446744078004518913, 18446744078004518914, 18446744078004518915, 6, 2815594192036691968]]
noncomputable def vd_728_0 : List (List (List Nat)) := [vd_728_0_0, vd_728_0_1, vd_728_0_2, vd_728_0_3, vd_728_0_4, vd_728_0_5, vd_728_0_6]
noncomputable def vd_728 : List (List (List (List Nat))) := [vd_728_0]
noncomputable def vt_728 : List (List am_I) := [[(.ofNat 13, .ofNat 2147483647), (.ofNat 0, .ofNat 12), (.negSucc 2147483647, .negSucc 0), (.ofNat 100000, .ofNat 100000), am_topl]]
noncomputable def vc_728 : vm_C := (fun _ => vp_728, fun pc => (match Nat.beq pc 0 with
  | true => [(fun _ _ => some (.inl 2), fun _ _ => some [.ofNat 0, .ofNat 13])]
  | false => (match Nat.beq pc 47 with
  | true => [(fun _ _ => some (.inl 6), fun _ _ => some [.ofNat 1]), (fun _ _ => some (.inr (62, 4)), fun _ _ => some [.ofNat 1, .ofNat 2, .ofNat 3, .ofNat 4, .ofNat 5])]
  | false => (match Nat.beq pc 73 with
  | true => [(fun _ _ => some (.inl 6), fun _ _ => some [.ofNat 1]), (fun _ _ => some (.inr (62, 4)), fun _ _ => some [.ofNat 1, .ofNat 2, .ofNat 3, .ofNat 4, .ofNat 5])]
  | false => (match Nat.beq pc 94 with
  | true => [(fun _ _ => some (.inl 6), fun _ _ => some [.ofNat 1]), (fun _ _ => some (.inr (62, 4)), fun _ _ => some [.ofNat 1, .ofNat 2, .ofNat 3, .ofNat 4, .ofNat 5])]
  | false => [])))), [47, 73, 94], 414, vm_inst 16 10001 vt_728 vf_728 vd_728)
theorem vx_728_0 : vm_chk bt_210 [] vk_728 39 vc_728 0 11 = true := by decide +kernel
theorem vx_728_1 : vm_chk bt_210 [] vk_728 39 vc_728 11 7 = true := by decide +kernel
theorem vx_728_2 : vm_chk bt_210 [] vk_728 39 vc_728 18 7 = true := by decide +kernel
theorem vx_728_3 : vm_chk bt_210 [] vk_728 39 vc_728 25 7 = true := by decide +kernel
theorem vx_728_4 : vm_chk bt_210 [] vk_728 39 vc_728 32 7 = true := by decide +kernel
theorem vx_728_5 : vm_chk bt_210 [] vk_728 39 vc_728 39 7 = true := by decide +kernel
theorem vx_728_6 : vm_chk bt_210 [] vk_728 39 vc_728 46 7 = true := by decide +kernel
theorem vx_728_7 : vm_chk bt_210 [] vk_728 39 vc_728 53 7 = true := by decide +kernel
theorem vx_728_8 : vm_chk bt_210 [] vk_728 39 vc_728 60 7 = true := by decide +kernel
theorem vx_728_9 : vm_chk bt_210 [] vk_728 39 vc_728 67 7 = true := by decide +kernel
theorem vx_728_10 : vm_chk bt_210 [] vk_728 39 vc_728 74 7 = true := by decide +kernel
theorem vx_728_11 : vm_chk bt_210 [] vk_728 39 vc_728 81 7 = true := by decide +kernel
theorem vx_728_12 : vm_chk bt_210 [] vk_728 39 vc_728 88 7 = true := by decide +kernel
theorem vx_728_13 : vm_chk bt_210 [] vk_728 39 vc_728 95 7 = true := by decide +kernel
theorem vx_728_14 : vm_chk bt_210 [] vk_728 39 vc_728 102 7 = true := by decide +kernel
theorem vx_728_15 : vm_chk bt_210 [] vk_728 39 vc_728 109 7 = true := by decide +kernel
theorem vx_728_16 : vm_chk bt_210 [] vk_728 39 vc_728 116 7 = true := by decide +kernel
theorem vx_728_17 : vm_chk bt_210 [] vk_728 39 vc_728 123 7 = true := by decide +kernel
theorem vx_728_18 : vm_chk bt_210 [] vk_728 39 vc_728 130 7 = true := by decide +kernel
theorem vx_728_19 : vm_chk bt_210 [] vk_728 39 vc_728 137 7 = true := by decide +kernel
theorem vx_728_20 : vm_chk bt_210 [] vk_728 39 vc_728 144 7 = true := by decide +kernel
theorem vx_728_21 : vm_chk bt_210 [] vk_728 39 vc_728 151 7 = true := by decide +kernel
theorem vx_728_22 : vm_chk bt_210 [] vk_728 39 vc_728 158 7 = true := by decide +kernel
theorem vx_728_23 : vm_chk bt_210 [] vk_728 39 vc_728 165 7 = true := by decide +kernel
theorem vx_728_24 : vm_chk bt_210 [] vk_728 39 vc_728 172 7 = true := by decide +kernel
theorem vx_728_25 : vm_chk bt_210 [] vk_728 39 vc_728 179 7 = true := by decide +kernel
theorem vx_728_26 : vm_chk bt_210 [] vk_728 39 vc_728 186 7 = true := by decide +kernel
theorem vx_728_27 : vm_chk bt_210 [] vk_728 39 vc_728 193 7 = true := by decide +kernel
theorem vx_728_28 : vm_chk bt_210 [] vk_728 39 vc_728 200 7 = true := by decide +kernel
theorem vx_728_29 : vm_chk bt_210 [] vk_728 39 vc_728 207 7 = true := by decide +kernel
theorem vx_728_30 : vm_chk bt_210 [] vk_728 39 vc_728 214 7 = true := by decide +kernel
theorem vx_728_31 : vm_chk bt_210 [] vk_728 39 vc_728 221 7 = true := by decide +kernel
theorem vx_728_32 : vm_chk bt_210 [] vk_728 39 vc_728 228 8 = true := by decide +kernel
theorem vx_728_33 : vm_chk bt_210 [] vk_728 39 vc_728 236 8 = true := by decide +kernel
theorem vx_728_34 : vm_chk bt_210 [] vk_728 39 vc_728 244 8 = true := by decide +kernel
theorem vx_728_35 : vm_chk bt_210 [] vk_728 39 vc_728 252 7 = true := by decide +kernel
theorem vx_728_36 : vm_chk bt_210 [] vk_728 39 vc_728 259 7 = true := by decide +kernel
theorem vx_728_37 : vm_chk bt_210 [] vk_728 39 vc_728 266 7 = true := by decide +kernel
theorem vx_728_38 : vm_chk bt_210 [] vk_728 39 vc_728 273 7 = true := by decide +kernel
theorem vx_728_39 : vm_chk bt_210 [] vk_728 39 vc_728 280 7 = true := by decide +kernel
theorem vx_728_40 : vm_chk bt_210 [] vk_728 39 vc_728 287 7 = true := by decide +kernel
theorem vx_728_41 : vm_chk bt_210 [] vk_728 39 vc_728 294 7 = true := by decide +kernel
theorem vx_728_42 : vm_chk bt_210 [] vk_728 39 vc_728 301 7 = true := by decide +kernel
theorem vx_728_43 : vm_chk bt_210 [] vk_728 39 vc_728 308 7 = true := by decide +kernel
theorem vx_728_44 : vm_chk bt_210 [] vk_728 39 vc_728 315 7 = true := by decide +kernel
theorem vx_728_45 : vm_chk bt_210 [] vk_728 39 vc_728 322 7 = true := by decide +kernel
theorem vx_728_46 : vm_chk bt_210 [] vk_728 39 vc_728 329 6 = true := by decide +kernel
theorem vx_728_47 : vm_chk bt_210 [] vk_728 39 vc_728 335 9 = true := by decide +kernel
theorem vx_728_48 : vm_chk bt_210 [] vk_728 39 vc_728 344 8 = true := by decide +kernel
theorem vx_728_49 : vm_chk bt_210 [] vk_728 39 vc_728 352 7 = true := by decide +kernel
theorem vx_728_50 : vm_chk bt_210 [] vk_728 39 vc_728 359 8 = true := by decide +kernel
theorem vx_728_51 : vm_chk bt_210 [] vk_728 39 vc_728 367 7 = true := by decide +kernel
theorem vx_728_52 : vm_chk bt_210 [] vk_728 39 vc_728 374 8 = true := by decide +kernel
theorem vx_728_53 : vm_chk bt_210 [] vk_728 39 vc_728 382 8 = true := by decide +kernel
theorem vx_728_54 : vm_chk bt_210 [] vk_728 39 vc_728 390 8 = true := by decide +kernel
theorem vx_728_55 : vm_chk bt_210 [] vk_728 39 vc_728 398 9 = true := by decide +kernel
theorem vx_728_56 : vm_chk bt_210 [] vk_728 39 vc_728 407 7 = true := by decide +kernel
theorem vy_728 : vm_ents 210 39 vc_728 ve_728 = true := by decide +kernel
theorem vgr_728_0 (i : Nat) : i < 287 → ∃ lo k, lo ≤ i ∧ i < lo + k ∧ vm_chk bt_210 [] vk_728 39 vc_728 lo k = true := vm_hc vx_728_39 rfl (vm_hc vx_728_38 rfl (vm_hc vx_728_37 rfl (vm_hc vx_728_36 rfl (vm_hc vx_728_35 rfl (vm_hc vx_728_34 rfl (vm_hc vx_728_33 rfl (vm_hc vx_728_32 rfl (vm_hc vx_728_31 rfl (vm_hc vx_728_30 rfl (vm_hc vx_728_29 rfl (vm_hc vx_728_28 rfl (vm_hc vx_728_27 rfl (vm_hc vx_728_26 rfl (vm_hc vx_728_25 rfl (vm_hc vx_728_24 rfl (vm_hc vx_728_23 rfl (vm_hc vx_728_22 rfl (vm_hc vx_728_21 rfl (vm_hc vx_728_20 rfl (vm_hc vx_728_19 rfl (vm_hc vx_728_18 rfl (vm_hc vx_728_17 rfl (vm_hc vx_728_16 rfl (vm_hc vx_728_15 rfl (vm_hc vx_728_14 rfl (vm_hc vx_728_13 rfl (vm_hc vx_728_12 rfl (vm_hc vx_728_11 rfl (vm_hc vx_728_10 rfl (vm_hc vx_728_9 rfl (vm_hc vx_728_8 rfl (vm_hc vx_728_7 rfl (vm_hc vx_728_6 rfl (vm_hc vx_728_5 rfl (vm_hc vx_728_4 rfl (vm_hc vx_728_3 rfl (vm_hc vx_728_2 rfl (vm_hc vx_728_1 rfl (vm_hc vx_728_0 rfl (fun h => absurd h (Nat.not_lt_zero _)))))))))))))))))))))))))))))))))))))))))
theorem vgr_728_1 (i : Nat) : i < 414 → ∃ lo k, lo ≤ i ∧ i < lo + k ∧ vm_chk bt_210 [] vk_728 39 vc_728 lo k = true := vm_hc vx_728_56 rfl (vm_hc vx_728_55 rfl (vm_hc vx_728_54 rfl (vm_hc vx_728_53 rfl (vm_hc vx_728_52 rfl (vm_hc vx_728_51 rfl (vm_hc vx_728_50 rfl (vm_hc vx_728_49 rfl (vm_hc vx_728_48 rfl (vm_hc vx_728_47 rfl (vm_hc vx_728_46 rfl (vm_hc vx_728_45 rfl (vm_hc vx_728_44 rfl (vm_hc vx_728_43 rfl (vm_hc vx_728_42 rfl (vm_hc vx_728_41 rfl (vm_hc vx_728_40 rfl (vgr_728_0 i)))))))))))))))))
theorem vw_728 : ∀ q ∈ vk_728, vm_wt 7 q := vm_wts (vm_kc (vm_up v_659 rfl) (vm_kc (vm_up v_662 rfl) (vm_kc (vm_up v_658 rfl) (vm_kc (vm_up v_727 rfl) (vm_kc (vm_up v_637 rfl) (vm_kc (vm_up v_482 rfl) (vm_kc (vm_up v_537 rfl) (vm_kc (vm_up v_561 rfl) (vm_kc (vm_up v_common rfl) vm_kn))))))))) (by decide +kernel)
theorem v_728 : vm_at 8 q_728 := vm_ok (inl := []) (es := ve_728) bq_210 (by decide) vw_728 vy_728 (fun i => vgr_728_1 i) _ List.mem_cons_self
noncomputable def vp_729 : List vm_R := [(some (.inl (.negSucc 2, .ofNat 8)), va_h0)]
noncomputable def ve_729 : List vm_E := [([.inr (.inr (some 70)), .inl am_top, .inl am_top], va_h0, 0, [0, 1, 2, 3, 4, 5, 6, 7, 8, 9, 10, 11, 12, 13, 14, 15, 16, 17, 18, 19, 20, 21, 22, 23, 24, 25, 26])]
noncomputable def q_729 : vm_Q := (212, [.inr (.inr (some 70)), .inl am_top, .inl am_top], va_h0, vp_729)
noncomputable def vk_729 : List vm_U := [(q_633, true, []), (q_636, true, []), (q_586, true, []), (q_568, true, [])]
noncomputable def vf_729 : List ((Nat → am_I) → vm_A) := [fun v => (0, [(0, .inr (.inr (some 70))), (1, .inl (v 0)), (2, .inl am_top)], [], (80, [(63, (fm_mod ab_27 (v 1) (v 2)))]))]
noncomputable def vd_729_0_0 : List (List Nat) := [[8912526901248, 7813015273472, 6713503645696, 5613992017920, 4514480390144, 3414968762368, 2315457134592, 1215945506816], [116433879040, 8912543678464, 7813032050688, 6713520422912, 5614008795136, 4514497167360, 3414985539584, 2315473911808], [1215962284032, 116450656256, 8912560455680, 7813048827904, 6713537200128, 5614025572352, 4514513944576, 3415002316800], [2315490689024, 1215979061248, 116467433472]]
noncomputable def vd_729_0 : List (List (List Nat)) := [vd_729_0_0]
noncomputable def vd_729 : List (List (List (List Nat))) := [vd_729_0]
noncomputable def vt_729 : List (List am_I) := [[(.ofNat 5, .ofNat 2147483647), (.ofNat 0, .ofNat 4), (.negSucc 2147483647, .negSucc 0)]]
noncomputable def vc_729 : vm_C := (fun _ => vp_729, fun pc => (match Nat.beq pc 0 with
  | true => [(fun _ _ => some (.inl 1), fun _ _ => some [.ofNat 0, .ofNat 5]), (fun _ _ => some (.inr (63, 27)), fun _ _ => some [.ofNat 1, .ofNat 2, .ofNat 3, .ofNat 4, .ofNat 5, .ofNat 6, .ofNat 7, .ofNat 8])]
  | false => []), [], 27, vm_inst 8 28 vt_729 vf_729 vd_729)
theorem vx_729_0 : vm_chk bt_212 [] vk_729 57 vc_729 0 12 = true := by decide +kernel
theorem vx_729_1 : vm_chk bt_212 [] vk_729 57 vc_729 12 4 = true := by decide +kernel
theorem vx_729_2 : vm_chk bt_212 [] vk_729 57 vc_729 16 11 = true := by decide +kernel
theorem vy_729 : vm_ents 212 57 vc_729 ve_729 = true := by decide +kernel
theorem vw_729 : ∀ q ∈ vk_729, vm_wt 3 q := vm_wts (vm_kc (vm_up v_633 rfl) (vm_kc (vm_up v_636 rfl) (vm_kc (vm_up v_586 rfl) (vm_kc (vm_up v_568 rfl) vm_kn)))) (by decide +kernel)
theorem v_729 : vm_at 4 q_729 := vm_ok (inl := []) (es := ve_729) bq_212 (by decide) vw_729 vy_729 (fun i => vm_hc vx_729_2 rfl (vm_hc vx_729_1 rfl (vm_hc vx_729_0 rfl (fun h => absurd h (Nat.not_lt_zero _))))) _ List.mem_cons_self
noncomputable def vp_730 : List vm_R := [(some (.inl (.ofNat 0, .ofNat 0)), va_h0)]
noncomputable def ve_730 : List vm_E := [([.inr (.inl (.negSucc 2147483647, .negSucc 0)), .inr (.inl (.ofNat 0, .ofNat 0)), .inr (.inl (.ofNat 0, .ofNat 8))], va_h0, 0, [0])]
noncomputable def q_730 : vm_Q := (149, [.inr (.inl (.negSucc 2147483647, .negSucc 0)), .inr (.inl (.ofNat 0, .ofNat 0)), .inr (.inl (.ofNat 0, .ofNat 8))], va_h0, vp_730)
noncomputable def vk_730 : List vm_U := []
noncomputable def vf_730 : List ((Nat → am_I) → vm_A) := [fun v => (0, [(0, .inr (.inl (.negSucc 2147483647, .negSucc 0))), (2, .inr (.inl (.ofNat 0, .ofNat 0))), (4, .inr (.inl (.ofNat 0, .ofNat 8)))], [], (80, []))]
noncomputable def vd_730_0_0 : List (List Nat) := [[0]]
noncomputable def vd_730_0 : List (List (List Nat)) := [vd_730_0_0]
noncomputable def vd_730 : List (List (List (List Nat))) := [vd_730_0]
noncomputable def vt_730 : List (List am_I) := []
noncomputable def vc_730 : vm_C := (fun _ => vp_730, fun pc => [], [], 1, vm_inst 8 1 vt_730 vf_730 vd_730)
theorem vx_730_0 : vm_chk bt_149 [] vk_730 8 vc_730 0 1 = true := by decide +kernel
theorem vy_730 : vm_ents 149 8 vc_730 ve_730 = true := by decide +kernel
theorem vw_730 : ∀ q ∈ vk_730, vm_wt 1 q := vm_wts vm_kn (by decide +kernel)
theorem v_730 : vm_at 2 q_730 := vm_ok (inl := []) (es := ve_730) bq_149 (by decide) vw_730 vy_730 (fun i => vm_hc vx_730_0 rfl (fun h => absurd h (Nat.not_lt_zero _))) _ List.mem_cons_self
noncomputable def vp_731 : List vm_R := [(some (.inl (.ofNat 0, .ofNat 1)), va_h0)]
noncomputable def ve_731 : List vm_E := [([.inr (.inl (.ofNat 0, .ofNat 8)), .inr (.inl (.ofNat 0, .ofNat 0)), .inr (.inl (.ofNat 0, .ofNat 8))], va_h0, 0, [0])]
noncomputable def q_731 : vm_Q := (149, [.inr (.inl (.ofNat 0, .ofNat 8)), .inr (.inl (.ofNat 0, .ofNat 0)), .inr (.inl (.ofNat 0, .ofNat 8))], va_h0, vp_731)
noncomputable def vk_731 : List vm_U := []
noncomputable def vf_731 : List ((Nat → am_I) → vm_A) := [fun v => (0, [(0, .inr (.inl (.ofNat 0, .ofNat 8))), (2, .inr (.inl (.ofNat 0, .ofNat 0))), (4, .inr (.inl (.ofNat 0, .ofNat 8)))], [], (80, []))]
noncomputable def vd_731_0_0 : List (List Nat) := [[0]]
noncomputable def vd_731_0 : List (List (List Nat)) := [vd_731_0_0]
noncomputable def vd_731 : List (List (List (List Nat))) := [vd_731_0]
noncomputable def vt_731 : List (List am_I) := []
noncomputable def vc_731 : vm_C := (fun _ => vp_731, fun pc => [], [], 1, vm_inst 8 1 vt_731 vf_731 vd_731)
theorem vx_731_0 : vm_chk bt_149 [] vk_731 13 vc_731 0 1 = true := by decide +kernel
theorem vy_731 : vm_ents 149 13 vc_731 ve_731 = true := by decide +kernel
theorem vw_731 : ∀ q ∈ vk_731, vm_wt 1 q := vm_wts vm_kn (by decide +kernel)
theorem v_731 : vm_at 2 q_731 := vm_ok (inl := []) (es := ve_731) bq_149 (by decide) vw_731 vy_731 (fun i => vm_hc vx_731_0 rfl (fun h => absurd h (Nat.not_lt_zero _))) _ List.mem_cons_self
noncomputable def vp_732 : List vm_R := [(some (.inl (.ofNat 0, .ofNat 0)), va_h0)]
noncomputable def ve_732 : List vm_E := [([.inr (.inl (.ofNat 9, .ofNat 2147483647)), .inr (.inl (.ofNat 0, .ofNat 0)), .inr (.inl (.ofNat 0, .ofNat 8))], va_h0, 0, [0])]
noncomputable def q_732 : vm_Q := (149, [.inr (.inl (.ofNat 9, .ofNat 2147483647)), .inr (.inl (.ofNat 0, .ofNat 0)), .inr (.inl (.ofNat 0, .ofNat 8))], va_h0, vp_732)
noncomputable def vk_732 : List vm_U := []
noncomputable def vf_732 : List ((Nat → am_I) → vm_A) := [fun v => (0, [(0, .inr (.inl (.ofNat 9, .ofNat 2147483647))), (2, .inr (.inl (.ofNat 0, .ofNat 0))), (4, .inr (.inl (.ofNat 0, .ofNat 8)))], [], (80, []))]
noncomputable def vd_732_0_0 : List (List Nat) := [[0]]
noncomputable def vd_732_0 : List (List (List Nat)) := [vd_732_0_0]
noncomputable def vd_732 : List (List (List (List Nat))) := [vd_732_0]
noncomputable def vt_732 : List (List am_I) := []
noncomputable def vc_732 : vm_C := (fun _ => vp_732, fun pc => [], [], 1, vm_inst 8 1 vt_732 vf_732 vd_732)
theorem vx_732_0 : vm_chk bt_149 [] vk_732 12 vc_732 0 1 = true := by decide +kernel
theorem vy_732 : vm_ents 149 12 vc_732 ve_732 = true := by decide +kernel
theorem vw_732 : ∀ q ∈ vk_732, vm_wt 1 q := vm_wts vm_kn (by decide +kernel)
theorem v_732 : vm_at 2 q_732 := vm_ok (inl := []) (es := ve_732) bq_149 (by decide) vw_732 vy_732 (fun i => vm_hc vx_732_0 rfl (fun h => absurd h (Nat.not_lt_zero _))) _ List.mem_cons_self
noncomputable def vp_733 : List vm_R := [(some (.inl (.negSucc 0, .ofNat 8)), va_h0)]
noncomputable def ve_733 : List vm_E := [([.inr (.inr (some 70)), .inl am_top], va_h0, 0, [0, 1, 2])]
noncomputable def q_733 : vm_Q := (213, [.inr (.inr (some 70)), .inl am_top], va_h0, vp_733)
noncomputable def vk_733 : List vm_U := [(q_731, true, []), (q_732, true, []), (q_730, true, []), (q_616, false, [])]
noncomputable def vf_733 : List ((Nat → am_I) → vm_A) := [fun v => (0, [(0, .inr (.inr (some 70))), (1, .inl (v 0))], [], (80, []))]
noncomputable def vd_733_0_0 : List (List Nat) := [[16777216, 33554432, 50331648]]
noncomputable def vd_733_0 : List (List (List Nat)) := [vd_733_0_0]
noncomputable def vd_733 : List (List (List (List Nat))) := [vd_733_0]
noncomputable def vt_733 : List (List am_I) := [[(.ofNat 9, .ofNat 2147483647), (.ofNat 0, .ofNat 8), (.negSucc 2147483647, .negSucc 0)]]
noncomputable def vc_733 : vm_C := (fun _ => vp_733, fun pc => (match Nat.beq pc 0 with
  | true => [(fun _ _ => some (.inl 1), fun _ _ => some [.ofNat 0, .ofNat 9])]
  | false => []), [], 3, vm_inst 8 1 vt_733 vf_733 vd_733)
theorem vx_733_0 : vm_chk bt_213 [] vk_733 18 vc_733 0 3 = true := by decide +kernel
theorem vy_733 : vm_ents 213 18 vc_733 ve_733 = true := by decide +kernel
theorem vw_733 : ∀ q ∈ vk_733, vm_wt 2 q := vm_wts (vm_kc (vm_up v_731 rfl) (vm_kc (vm_up v_732 rfl) (vm_kc (vm_up v_730 rfl) (vm_kc (vm_up v_616 rfl) vm_kn)))) (by decide +kernel)
theorem v_733 : vm_at 3 q_733 := vm_ok (inl := []) (es := ve_733) bq_213 (by decide) vw_733 vy_733 (fun i => vm_hc vx_733_0 rfl (fun h => absurd h (Nat.not_lt_zero _))) _ List.mem_cons_self
