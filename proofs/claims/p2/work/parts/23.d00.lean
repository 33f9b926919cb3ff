noncomputable def va_c255 : am_C := .inr (.inr (.inr (2, [.inr (.inr (some 10)), .inl (.ofNat 160, .ofNat 160), .inl (.ofNat 0, .ofNat 4), .inl (.ofNat 0, .ofNat 160), .inl am_top, .inl (.ofNat 0, .ofNat 160)])))
noncomputable def va_h367 : am_H := (80, [(1, va_c255)])
noncomputable def vp_3590 : List vm_R := [(some (.inl (.ofNat 0, .ofNat 0)), va_h367)]
noncomputable def ve_3590 : List vm_E := [([.inr (.inr (some 9)), .inl (.ofNat 0, .ofNat 127)], va_h367, 0, [0])]
noncomputable def q_3590 : vm_Q := (11, [.inr (.inr (some 9)), .inl (.ofNat 0, .ofNat 127)], va_h367, vp_3590)
noncomputable def vk_3590 : List vm_U := []
noncomputable def vf_3590 : List ((Nat → am_I) → vm_A) := [fun v => (0, [(0, .inr (.inr (some 9))), (1, .inl (.ofNat 0, .ofNat 127))], [], (80, [(1, va_c255)]))]
noncomputable def vd_3590_0_0 : List (List Nat) := [[0]]
noncomputable def vd_3590_0 : List (List (List Nat)) := [vd_3590_0_0]
noncomputable def vd_3590 : List (List (List (List Nat))) := [vd_3590_0]
noncomputable def vt_3590 : List (List am_I) := []
noncomputable def vc_3590 : vm_C := (fun _ => vp_3590, fun pc => [], [], 1, vm_inst 8 1 vt_3590 vf_3590 vd_3590)
theorem vx_3590_0 : vm_chk bt_11 [] vk_3590 10 vc_3590 0 1 = true := by decide +kernel
theorem vy_3590 : vm_ents 11 10 vc_3590 ve_3590 = true := by decide +kernel
theorem vw_3590 : ∀ q ∈ vk_3590, vm_wt 1 q := vm_wts vm_kn (by decide +kernel)
theorem v_3590 : vm_at 2 q_3590 := vm_ok (inl := []) (es := ve_3590) bq_11 (by decide) vw_3590 vy_3590 (fun i => vm_hc vx_3590_0 rfl (fun h => absurd h (Nat.not_lt_zero _))) _ List.mem_cons_self
noncomputable def vp_F_append (s : Nat) : List vm_R := [(some (.inl (.ofNat 1, .ofNat 1)), (80, [(1, .inr (.inr (.inr (2, [.inr (.inr (some 10)), .inl (.ofNat (s + 1), .ofNat (s + 1)), .inl (.ofNat 0, .ofNat 4), .inl (.ofNat 0, .ofNat 160), .inl am_top, .inl (.ofNat 0, .ofNat 160)]))))]))]
noncomputable def vk_F_append (s : Nat) : List vm_U := []
noncomputable def vf_F_append (s : Nat) : List ((Nat → am_I) → vm_A) := [fun v => (0, [(0, .inr (.inr (some 9))), (1, .inl (.ofNat 0, .ofNat 127))], [], (80, [(1, .inr (.inr (.inr (2, [.inr (.inr (some 10)), .inl (.ofNat (s + 0), .ofNat (s + 0)), .inl (.ofNat 0, .ofNat 4), .inl (.ofNat 0, .ofNat 160), .inl am_top, .inl (.ofNat 0, .ofNat 160)]))))]))]
noncomputable def vd_F_append_0_0 (s : Nat) : List (List Nat) := [[0]]
noncomputable def vd_F_append_0 (s : Nat) : List (List (List Nat)) := [vd_F_append_0_0 s]
noncomputable def vd_F_append (s : Nat) : List (List (List (List Nat))) := [vd_F_append_0 s]
noncomputable def vt_F_append (s : Nat) : List (List am_I) := []
noncomputable def vc_F_append (s : Nat) : vm_C := (fun _ => vp_F_append s, fun pc => [], [], 1, vm_inst 8 1 (vt_F_append s) (vf_F_append s) (vd_F_append s))
noncomputable def ve_F_append (s : Nat) : List vm_E := [([.inr (.inr (some 9)), .inl (.ofNat 0, .ofNat 127)], (80, [(1, .inr (.inr (.inr (2, [.inr (.inr (some 10)), .inl (.ofNat (s + 0), .ofNat (s + 0)), .inl (.ofNat 0, .ofNat 4), .inl (.ofNat 0, .ofNat 160), .inl am_top, .inl (.ofNat 0, .ofNat 160)]))))]), 0, [0])]
noncomputable def q_F_append (s : Nat) : vm_Q := (11, [.inr (.inr (some 9)), .inl (.ofNat 0, .ofNat 127)], (80, [(1, .inr (.inr (.inr (2, [.inr (.inr (some 10)), .inl (.ofNat (s + 0), .ofNat (s + 0)), .inl (.ofNat 0, .ofNat 4), .inl (.ofNat 0, .ofNat 160), .inl am_top, .inl (.ofNat 0, .ofNat 160)]))))]), vp_F_append s)
theorem vx_F_append_0 : vm_rng (fun s => vm_chk bt_11 [] (vk_F_append s) 23 (vc_F_append s) 0 1 && (vm_ents 11 23 (vc_F_append s) (ve_F_append s) && vm_kok (vk_F_append s))) 0 9 = true := by decide +kernel
theorem vx_F_append_1 : vm_rng (fun s => vm_chk bt_11 [] (vk_F_append s) 23 (vc_F_append s) 0 1 && (vm_ents 11 23 (vc_F_append s) (ve_F_append s) && vm_kok (vk_F_append s))) 9 9 = true := by decide +kernel
theorem vx_F_append_2 : vm_rng (fun s => vm_chk bt_11 [] (vk_F_append s) 23 (vc_F_append s) 0 1 && (vm_ents 11 23 (vc_F_append s) (ve_F_append s) && vm_kok (vk_F_append s))) 18 9 = true := by decide +kernel
theorem vx_F_append_3 : vm_rng (fun s => vm_chk bt_11 [] (vk_F_append s) 23 (vc_F_append s) 0 1 && (vm_ents 11 23 (vc_F_append s) (ve_F_append s) && vm_kok (vk_F_append s))) 27 9 = true := by decide +kernel
theorem vx_F_append_4 : vm_rng (fun s => vm_chk bt_11 [] (vk_F_append s) 23 (vc_F_append s) 0 1 && (vm_ents 11 23 (vc_F_append s) (ve_F_append s) && vm_kok (vk_F_append s))) 36 9 = true := by decide +kernel
theorem vx_F_append_5 : vm_rng (fun s => vm_chk bt_11 [] (vk_F_append s) 23 (vc_F_append s) 0 1 && (vm_ents 11 23 (vc_F_append s) (ve_F_append s) && vm_kok (vk_F_append s))) 45 9 = true := by decide +kernel
theorem vx_F_append_6 : vm_rng (fun s => vm_chk bt_11 [] (vk_F_append s) 23 (vc_F_append s) 0 1 && (vm_ents 11 23 (vc_F_append s) (ve_F_append s) && vm_kok (vk_F_append s))) 54 9 = true := by decide +kernel
theorem vx_F_append_7 : vm_rng (fun s => vm_chk bt_11 [] (vk_F_append s) 23 (vc_F_append s) 0 1 && (vm_ents 11 23 (vc_F_append s) (ve_F_append s) && vm_kok (vk_F_append s))) 63 9 = true := by decide +kernel
theorem vx_F_append_8 : vm_rng (fun s => vm_chk bt_11 [] (vk_F_append s) 23 (vc_F_append s) 0 1 && (vm_ents 11 23 (vc_F_append s) (ve_F_append s) && vm_kok (vk_F_append s))) 72 9 = true := by decide +kernel
theorem vx_F_append_9 : vm_rng (fun s => vm_chk bt_11 [] (vk_F_append s) 23 (vc_F_append s) 0 1 && (vm_ents 11 23 (vc_F_append s) (ve_F_append s) && vm_kok (vk_F_append s))) 81 9 = true := by decide +kernel
theorem vx_F_append_10 : vm_rng (fun s => vm_chk bt_11 [] (vk_F_append s) 23 (vc_F_append s) 0 1 && (vm_ents 11 23 (vc_F_append s) (ve_F_append s) && vm_kok (vk_F_append s))) 90 9 = true := by decide +kernel
theorem vx_F_append_11 : vm_rng (fun s => vm_chk bt_11 [] (vk_F_append s) 23 (vc_F_append s) 0 1 && (vm_ents 11 23 (vc_F_append s) (ve_F_append s) && vm_kok (vk_F_append s))) 99 9 = true := by decide +kernel
theorem vx_F_append_12 : vm_rng (fun s => vm_chk bt_11 [] (vk_F_append s) 23 (vc_F_append s) 0 1 && (vm_ents 11 23 (vc_F_append s) (ve_F_append s) && vm_kok (vk_F_append s))) 108 9 = true := by decide +kernel
theorem vx_F_append_13 : vm_rng (fun s => vm_chk bt_11 [] (vk_F_append s) 23 (vc_F_append s) 0 1 && (vm_ents 11 23 (vc_F_append s) (ve_F_append s) && vm_kok (vk_F_append s))) 117 9 = true := by decide +kernel
theorem vx_F_append_14 : vm_rng (fun s => vm_chk bt_11 [] (vk_F_append s) 23 (vc_F_append s) 0 1 && (vm_ents 11 23 (vc_F_append s) (ve_F_append s) && vm_kok (vk_F_append s))) 126 9 = true := by decide +kernel
theorem vx_F_append_15 : vm_rng (fun s => vm_chk bt_11 [] (vk_F_append s) 23 (vc_F_append s) 0 1 && (vm_ents 11 23 (vc_F_append s) (ve_F_append s) && vm_kok (vk_F_append s))) 135 9 = true := by decide +kernel
theorem vx_F_append_16 : vm_rng (fun s => vm_chk bt_11 [] (vk_F_append s) 23 (vc_F_append s) 0 1 && (vm_ents 11 23 (vc_F_append s) (ve_F_append s) && vm_kok (vk_F_append s))) 144 9 = true := by decide +kernel
theorem vx_F_append_17 : vm_rng (fun s => vm_chk bt_11 [] (vk_F_append s) 23 (vc_F_append s) 0 1 && (vm_ents 11 23 (vc_F_append s) (ve_F_append s) && vm_kok (vk_F_append s))) 153 7 = true := by decide +kernel
set_option maxRecDepth 20000 in
theorem vz_F_append (s : Nat) (h1 : 0 ≤ s) (h2 : s < 160) : (vm_chk bt_11 [] (vk_F_append s) 23 (vc_F_append s) 0 1 && (vm_ents 11 23 (vc_F_append s) (ve_F_append s) && vm_kok (vk_F_append s))) = true := by
  by_cases g0 : s < 9
  · exact vm_rng_ok vx_F_append_0 s (by omega) (by omega)
  by_cases g1 : s < 18
  · exact vm_rng_ok vx_F_append_1 s (by omega) (by omega)
  by_cases g2 : s < 27
  · exact vm_rng_ok vx_F_append_2 s (by omega) (by omega)
  by_cases g3 : s < 36
  · exact vm_rng_ok vx_F_append_3 s (by omega) (by omega)
  by_cases g4 : s < 45
  · exact vm_rng_ok vx_F_append_4 s (by omega) (by omega)
  by_cases g5 : s < 54
  · exact vm_rng_ok vx_F_append_5 s (by omega) (by omega)
  by_cases g6 : s < 63
  · exact vm_rng_ok vx_F_append_6 s (by omega) (by omega)
  by_cases g7 : s < 72
  · exact vm_rng_ok vx_F_append_7 s (by omega) (by omega)
  by_cases g8 : s < 81
  · exact vm_rng_ok vx_F_append_8 s (by omega) (by omega)
  by_cases g9 : s < 90
  · exact vm_rng_ok vx_F_append_9 s (by omega) (by omega)
  by_cases g10 : s < 99
  · exact vm_rng_ok vx_F_append_10 s (by omega) (by omega)
  by_cases g11 : s < 108
  · exact vm_rng_ok vx_F_append_11 s (by omega) (by omega)
  by_cases g12 : s < 117
  · exact vm_rng_ok vx_F_append_12 s (by omega) (by omega)
  by_cases g13 : s < 126
  · exact vm_rng_ok vx_F_append_13 s (by omega) (by omega)
  by_cases g14 : s < 135
  · exact vm_rng_ok vx_F_append_14 s (by omega) (by omega)
  by_cases g15 : s < 144
  · exact vm_rng_ok vx_F_append_15 s (by omega) (by omega)
  by_cases g16 : s < 153
  · exact vm_rng_ok vx_F_append_16 s (by omega) (by omega)
  exact vm_rng_ok vx_F_append_17 s (by omega) (by omega)
theorem v_F_append (s : Nat) (h1 : 0 ≤ s) (h2 : s < 160) : vm_at 2 (q_F_append s) := by
  have h := vz_F_append s h1 h2
  rw [Bool.and_eq_true, Bool.and_eq_true] at h
  exact vm_ok (inl := []) (es := ve_F_append s) bq_11 (by decide) (vm_wts (L := 1) vm_kn h.2.2) h.2.1 (fun i => vm_hc h.1 rfl (fun h => absurd h (Nat.not_lt_zero _))) _ List.mem_cons_self
noncomputable def vp_F_fc_lo (s : Nat) : List vm_R := [(some (.inl (.negSucc 0, .negSucc 0)), (80, [(1, .inr (.inr (.inr (2, [.inr (.inr (some 10)), .inl (.ofNat (s + 0), .ofNat (s + 0)), .inl (.ofNat 0, .ofNat 4), .inl (.ofNat 0, .ofNat 160), .inl am_top, .inl (.ofNat 0, .ofNat 160)]))))]))]
noncomputable def vk_F_fc_lo (s : Nat) : List vm_U := []
noncomputable def vf_F_fc_lo (s : Nat) : List ((Nat → am_I) → vm_A) := [fun v => (0, [(0, .inr (.inr (some 8))), (1, .inl (.negSucc 2147483647, .negSucc 0))], [], (80, [(1, .inr (.inr (.inr (2, [.inr (.inr (some 10)), .inl (.ofNat (s + 0), .ofNat (s + 0)), .inl (.ofNat 0, .ofNat 4), .inl (.ofNat 0, .ofNat 160), .inl am_top, .inl (.ofNat 0, .ofNat 160)]))))]))]
noncomputable def vd_F_fc_lo_0_0 (s : Nat) : List (List Nat) := [[0]]
noncomputable def vd_F_fc_lo_0 (s : Nat) : List (List (List Nat)) := [vd_F_fc_lo_0_0 s]
noncomputable def vd_F_fc_lo (s : Nat) : List (List (List (List Nat))) := [vd_F_fc_lo_0 s]
noncomputable def vt_F_fc_lo (s : Nat) : List (List am_I) := []
noncomputable def vc_F_fc_lo (s : Nat) : vm_C := (fun _ => vp_F_fc_lo s, fun pc => [], [], 1, vm_inst 8 1 (vt_F_fc_lo s) (vf_F_fc_lo s) (vd_F_fc_lo s))
noncomputable def ve_F_fc_lo (s : Nat) : List vm_E := [([.inr (.inr (some 8)), .inl (.negSucc 2147483647, .negSucc 0)], (80, [(1, .inr (.inr (.inr (2, [.inr (.inr (some 10)), .inl (.ofNat (s + 0), .ofNat (s + 0)), .inl (.ofNat 0, .ofNat 4), .inl (.ofNat 0, .ofNat 160), .inl am_top, .inl (.ofNat 0, .ofNat 160)]))))]), 0, [0])]
noncomputable def q_F_fc_lo (s : Nat) : vm_Q := (10, [.inr (.inr (some 8)), .inl (.negSucc 2147483647, .negSucc 0)], (80, [(1, .inr (.inr (.inr (2, [.inr (.inr (some 10)), .inl (.ofNat (s + 0), .ofNat (s + 0)), .inl (.ofNat 0, .ofNat 4), .inl (.ofNat 0, .ofNat 160), .inl am_top, .inl (.ofNat 0, .ofNat 160)]))))]), vp_F_fc_lo s)
theorem vx_F_fc_lo_0 : vm_rng (fun s => vm_chk bt_10 [] (vk_F_fc_lo s) 6 (vc_F_fc_lo s) 0 1 && (vm_ents 10 6 (vc_F_fc_lo s) (ve_F_fc_lo s) && vm_kok (vk_F_fc_lo s))) 0 23 = true := by decide +kernel
theorem vx_F_fc_lo_1 : vm_rng (fun s => vm_chk bt_10 [] (vk_F_fc_lo s) 6 (vc_F_fc_lo s) 0 1 && (vm_ents 10 6 (vc_F_fc_lo s) (ve_F_fc_lo s) && vm_kok (vk_F_fc_lo s))) 23 23 = true := by decide +kernel
theorem vx_F_fc_lo_2 : vm_rng (fun s => vm_chk bt_10 [] (vk_F_fc_lo s) 6 (vc_F_fc_lo s) 0 1 && (vm_ents 10 6 (vc_F_fc_lo s) (ve_F_fc_lo s) && vm_kok (vk_F_fc_lo s))) 46 23 = true := by decide +kernel
theorem vx_F_fc_lo_3 : vm_rng (fun s => vm_chk bt_10 [] (vk_F_fc_lo s) 6 (vc_F_fc_lo s) 0 1 && (vm_ents 10 6 (vc_F_fc_lo s) (ve_F_fc_lo s) && vm_kok (vk_F_fc_lo s))) 69 23 = true := by decide +kernel
theorem vx_F_fc_lo_4 : vm_rng (fun s => vm_chk bt_10 [] (vk_F_fc_lo s) 6 (vc_F_fc_lo s) 0 1 && (vm_ents 10 6 (vc_F_fc_lo s) (ve_F_fc_lo s) && vm_kok (vk_F_fc_lo s))) 92 23 = true := by decide +kernel
theorem vx_F_fc_lo_5 : vm_rng (fun s => vm_chk bt_10 [] (vk_F_fc_lo s) 6 (vc_F_fc_lo s) 0 1 && (vm_ents 10 6 (vc_F_fc_lo s) (ve_F_fc_lo s) && vm_kok (vk_F_fc_lo s))) 115 23 = true := by decide +kernel
theorem vx_F_fc_lo_6 : vm_rng (fun s => vm_chk bt_10 [] (vk_F_fc_lo s) 6 (vc_F_fc_lo s) 0 1 && (vm_ents 10 6 (vc_F_fc_lo s) (ve_F_fc_lo s) && vm_kok (vk_F_fc_lo s))) 138 23 = true := by decide +kernel
set_option maxRecDepth 20000 in
theorem vz_F_fc_lo (s : Nat) (h1 : 0 ≤ s) (h2 : s < 161) : (vm_chk bt_10 [] (vk_F_fc_lo s) 6 (vc_F_fc_lo s) 0 1 && (vm_ents 10 6 (vc_F_fc_lo s) (ve_F_fc_lo s) && vm_kok (vk_F_fc_lo s))) = true := by
  by_cases g0 : s < 23
  · exact vm_rng_ok vx_F_fc_lo_0 s (by omega) (by omega)
  by_cases g1 : s < 46
  · exact vm_rng_ok vx_F_fc_lo_1 s (by omega) (by omega)
  by_cases g2 : s < 69
  · exact vm_rng_ok vx_F_fc_lo_2 s (by omega) (by omega)
  by_cases g3 : s < 92
  · exact vm_rng_ok vx_F_fc_lo_3 s (by omega) (by omega)
  by_cases g4 : s < 115
  · exact vm_rng_ok vx_F_fc_lo_4 s (by omega) (by omega)
  by_cases g5 : s < 138
  · exact vm_rng_ok vx_F_fc_lo_5 s (by omega) (by omega)
  exact vm_rng_ok vx_F_fc_lo_6 s (by omega) (by omega)
theorem v_F_fc_lo (s : Nat) (h1 : 0 ≤ s) (h2 : s < 161) : vm_at 2 (q_F_fc_lo s) := by
  have h := vz_F_fc_lo s h1 h2
  rw [Bool.and_eq_true, Bool.and_eq_true] at h
  exact vm_ok (inl := []) (es := ve_F_fc_lo s) bq_10 (by decide) (vm_wts (L := 1) vm_kn h.2.2) h.2.1 (fun i => vm_hc h.1 rfl (fun h => absurd h (Nat.not_lt_zero _))) _ List.mem_cons_self
noncomputable def vp_F_fr_lo (s : Nat) : List vm_R := [(some (.inl (.negSucc 0, .negSucc 0)), (80, [(62, .inr (.inr (.inr (7, [.inr (.inr (some 71)), .inr (.inr (some 72)), .inl (.ofNat 2, .ofNat 5), .inl (.ofNat 2, .ofNat 5), .inl (.ofNat 0, .ofNat 5), .inr (.inr (some 73)), .inl (.ofNat 0, .ofNat 5), .inl (.ofNat 0, .ofNat 5), .inl (.ofNat 0, .ofNat 5), .inl am_top, .inl am_top, .inl am_top, .inr (.inr (some 74)), .inl (.ofNat (s + 0), .ofNat (s + 0)), .inl (.ofNat 0, .ofNat 160), .inl (.ofNat 0, .ofNat 160), .inl (.ofNat 0, .ofNat 3), .inl am_top, .inl (.ofNat 0, .ofNat 6), .inl am_top, .inr (.inr (some 75)), .inr (.inr (some 76)), .inr (.inr (some 77)), .inr (.inr (some 78)), .inr (.inr (some 79)), .inr (.inr (some 80)), .inr (.inr (some 81)), .inl (.negSucc 0, .ofNat 6), .inr (.inr (some 82)), .inr (.inr (some 83)), .inr (.inr (some 84)), .inr (.inr (some 85)), .inr (.inr (some 86)), .inl am_top, .inr (.inr (some 87))]))))]))]
noncomputable def vk_F_fr_lo (s : Nat) : List vm_U := [(q_816, true, [])]
noncomputable def vf_F_fr_lo (s : Nat) : List ((Nat → am_I) → vm_A) := [fun v => (0, [(0, .inr (.inr (some 70))), (1, .inl (.negSucc 2147483647, .negSucc 0))], [], (80, [(62, .inr (.inr (.inr (7, [.inr (.inr (some 71)), .inr (.inr (some 72)), .inl (.ofNat 2, .ofNat 5), .inl (.ofNat 2, .ofNat 5), .inl (.ofNat 0, .ofNat 5), .inr (.inr (some 73)), .inl (.ofNat 0, .ofNat 5), .inl (.ofNat 0, .ofNat 5), .inl (.ofNat 0, .ofNat 5), .inl am_top, .inl am_top, .inl am_top, .inr (.inr (some 74)), .inl (.ofNat (s + 0), .ofNat (s + 0)), .inl (.ofNat 0, .ofNat 160), .inl (.ofNat 0, .ofNat 160), .inl (.ofNat 0, .ofNat 3), .inl am_top, .inl (.ofNat 0, .ofNat 6), .inl am_top, .inr (.inr (some 75)), .inr (.inr (some 76)), .inr (.inr (some 77)), .inr (.inr (some 78)), .inr (.inr (some 79)), .inr (.inr (some 80)), .inr (.inr (some 81)), .inl (.negSucc 0, .ofNat 6), .inr (.inr (some 82)), .inr (.inr (some 83)), .inr (.inr (some 84)), .inr (.inr (some 85)), .inr (.inr (some 86)), .inl am_top, .inr (.inr (some 87))]))))]))]
noncomputable def vd_F_fr_lo_0_0 (s : Nat) : List (List Nat) := [[0]]
noncomputable def vd_F_fr_lo_0 (s : Nat) : List (List (List Nat)) := [vd_F_fr_lo_0_0 s]
noncomputable def vd_F_fr_lo (s : Nat) : List (List (List (List Nat))) := [vd_F_fr_lo_0 s]
noncomputable def vt_F_fr_lo (s : Nat) : List (List am_I) := []
noncomputable def vc_F_fr_lo (s : Nat) : vm_C := (fun _ => vp_F_fr_lo s, fun pc => [], [], 1, vm_inst 8 1 (vt_F_fr_lo s) (vf_F_fr_lo s) (vd_F_fr_lo s))
noncomputable def ve_F_fr_lo (s : Nat) : List vm_E := [([.inr (.inr (some 70)), .inl (.negSucc 2147483647, .negSucc 0)], (80, [(62, .inr (.inr (.inr (7, [.inr (.inr (some 71)), .inr (.inr (some 72)), .inl (.ofNat 2, .ofNat 5), .inl (.ofNat 2, .ofNat 5), .inl (.ofNat 0, .ofNat 5), .inr (.inr (some 73)), .inl (.ofNat 0, .ofNat 5), .inl (.ofNat 0, .ofNat 5), .inl (.ofNat 0, .ofNat 5), .inl am_top, .inl am_top, .inl am_top, .inr (.inr (some 74)), .inl (.ofNat (s + 0), .ofNat (s + 0)), .inl (.ofNat 0, .ofNat 160), .inl (.ofNat 0, .ofNat 160), .inl (.ofNat 0, .ofNat 3), .inl am_top, .inl (.ofNat 0, .ofNat 6), .inl am_top, .inr (.inr (some 75)), .inr (.inr (some 76)), .inr (.inr (some 77)), .inr (.inr (some 78)), .inr (.inr (some 79)), .inr (.inr (some 80)), .inr (.inr (some 81)), .inl (.negSucc 0, .ofNat 6), .inr (.inr (some 82)), .inr (.inr (some 83)), .inr (.inr (some 84)), .inr (.inr (some 85)), .inr (.inr (some 86)), .inl am_top, .inr (.inr (some 87))]))))]), 0, [0])]
noncomputable def q_F_fr_lo (s : Nat) : vm_Q := (148, [.inr (.inr (some 70)), .inl (.negSucc 2147483647, .negSucc 0)], (80, [(62, .inr (.inr (.inr (7, [.inr (.inr (some 71)), .inr (.inr (some 72)), .inl (.ofNat 2, .ofNat 5), .inl (.ofNat 2, .ofNat 5), .inl (.ofNat 0, .ofNat 5), .inr (.inr (some 73)), .inl (.ofNat 0, .ofNat 5), .inl (.ofNat 0, .ofNat 5), .inl (.ofNat 0, .ofNat 5), .inl am_top, .inl am_top, .inl am_top, .inr (.inr (some 74)), .inl (.ofNat (s + 0), .ofNat (s + 0)), .inl (.ofNat 0, .ofNat 160), .inl (.ofNat 0, .ofNat 160), .inl (.ofNat 0, .ofNat 3), .inl am_top, .inl (.ofNat 0, .ofNat 6), .inl am_top, .inr (.inr (some 75)), .inr (.inr (some 76)), .inr (.inr (some 77)), .inr (.inr (some 78)), .inr (.inr (some 79)), .inr (.inr (some 80)), .inr (.inr (some 81)), .inl (.negSucc 0, .ofNat 6), .inr (.inr (some 82)), .inr (.inr (some 83)), .inr (.inr (some 84)), .inr (.inr (some 85)), .inr (.inr (some 86)), .inl am_top, .inr (.inr (some 87))]))))]), vp_F_fr_lo s)
theorem vx_F_fr_lo_0 : vm_rng (fun s => vm_chk bt_148 [] (vk_F_fr_lo s) 10 (vc_F_fr_lo s) 0 1 && (vm_ents 148 10 (vc_F_fr_lo s) (ve_F_fr_lo s) && vm_kok (vk_F_fr_lo s))) 0 17 = true := by decide +kernel
theorem vx_F_fr_lo_1 : vm_rng (fun s => vm_chk bt_148 [] (vk_F_fr_lo s) 10 (vc_F_fr_lo s) 0 1 && (vm_ents 148 10 (vc_F_fr_lo s) (ve_F_fr_lo s) && vm_kok (vk_F_fr_lo s))) 17 17 = true := by decide +kernel
theorem vx_F_fr_lo_2 : vm_rng (fun s => vm_chk bt_148 [] (vk_F_fr_lo s) 10 (vc_F_fr_lo s) 0 1 && (vm_ents 148 10 (vc_F_fr_lo s) (ve_F_fr_lo s) && vm_kok (vk_F_fr_lo s))) 34 17 = true := by decide +kernel
theorem vx_F_fr_lo_3 : vm_rng (fun s => vm_chk bt_148 [] (vk_F_fr_lo s) 10 (vc_F_fr_lo s) 0 1 && (vm_ents 148 10 (vc_F_fr_lo s) (ve_F_fr_lo s) && vm_kok (vk_F_fr_lo s))) 51 17 = true := by decide +kernel
theorem vx_F_fr_lo_4 : vm_rng (fun s => vm_chk bt_148 [] (vk_F_fr_lo s) 10 (vc_F_fr_lo s) 0 1 && (vm_ents 148 10 (vc_F_fr_lo s) (ve_F_fr_lo s) && vm_kok (vk_F_fr_lo s))) 68 17 = true := by decide +kernel
theorem vx_F_fr_lo_5 : vm_rng (fun s => vm_chk bt_148 [] (vk_F_fr_lo s) 10 (vc_F_fr_lo s) 0 1 && (vm_ents 148 10 (vc_F_fr_lo s) (ve_F_fr_lo s) && vm_kok (vk_F_fr_lo s))) 85 17 = true := by decide +kernel
theorem vx_F_fr_lo_6 : vm_rng (fun s => vm_chk bt_148 [] (vk_F_fr_lo s) 10 (vc_F_fr_lo s) 0 1 && (vm_ents 148 10 (vc_F_fr_lo s) (ve_F_fr_lo s) && vm_kok (vk_F_fr_lo s))) 102 17 = true := by decide +kernel
theorem vx_F_fr_lo_7 : vm_rng (fun s => vm_chk bt_148 [] (vk_F_fr_lo s) 10 (vc_F_fr_lo s) 0 1 && (vm_ents 148 10 (vc_F_fr_lo s) (ve_F_fr_lo s) && vm_kok (vk_F_fr_lo s))) 119 17 = true := by decide +kernel
theorem vx_F_fr_lo_8 : vm_rng (fun s => vm_chk bt_148 [] (vk_F_fr_lo s) 10 (vc_F_fr_lo s) 0 1 && (vm_ents 148 10 (vc_F_fr_lo s) (ve_F_fr_lo s) && vm_kok (vk_F_fr_lo s))) 136 17 = true := by decide +kernel
theorem vx_F_fr_lo_9 : vm_rng (fun s => vm_chk bt_148 [] (vk_F_fr_lo s) 10 (vc_F_fr_lo s) 0 1 && (vm_ents 148 10 (vc_F_fr_lo s) (ve_F_fr_lo s) && vm_kok (vk_F_fr_lo s))) 153 8 = true := by decide +kernel
set_option maxRecDepth 20000 in
theorem vz_F_fr_lo (s : Nat) (h1 : 0 ≤ s) (h2 : s < 161) : (vm_chk bt_148 [] (vk_F_fr_lo s) 10 (vc_F_fr_lo s) 0 1 && (vm_ents 148 10 (vc_F_fr_lo s) (ve_F_fr_lo s) && vm_kok (vk_F_fr_lo s))) = true := by
  by_cases g0 : s < 17
  · exact vm_rng_ok vx_F_fr_lo_0 s (by omega) (by omega)
  by_cases g1 : s < 34
  · exact vm_rng_ok vx_F_fr_lo_1 s (by omega) (by omega)
  by_cases g2 : s < 51
  · exact vm_rng_ok vx_F_fr_lo_2 s (by omega) (by omega)
  by_cases g3 : s < 68
  · exact vm_rng_ok vx_F_fr_lo_3 s (by omega) (by omega)
  by_cases g4 : s < 85
  · exact vm_rng_ok vx_F_fr_lo_4 s (by omega) (by omega)
  by_cases g5 : s < 102
  · exact vm_rng_ok vx_F_fr_lo_5 s (by omega) (by omega)
  by_cases g6 : s < 119
  · exact vm_rng_ok vx_F_fr_lo_6 s (by omega) (by omega)
  by_cases g7 : s < 136
  · exact vm_rng_ok vx_F_fr_lo_7 s (by omega) (by omega)
  by_cases g8 : s < 153
  · exact vm_rng_ok vx_F_fr_lo_8 s (by omega) (by omega)
  exact vm_rng_ok vx_F_fr_lo_9 s (by omega) (by omega)
theorem v_F_fr_lo (s : Nat) (h1 : 0 ≤ s) (h2 : s < 161) : vm_at 3 (q_F_fr_lo s) := by
  have h := vz_F_fr_lo s h1 h2
  rw [Bool.and_eq_true, Bool.and_eq_true] at h
  exact vm_ok (inl := []) (es := ve_F_fr_lo s) bq_148 (by decide) (vm_wts (L := 2) (vm_kc (vm_up v_816 rfl) vm_kn) h.2.2) h.2.1 (fun i => vm_hc h.1 rfl (fun h => absurd h (Nat.not_lt_zero _))) _ List.mem_cons_self
noncomputable def vp_4073 : List vm_R := [(some (.inl (.negSucc 2, .negSucc 2)), va_h367)]
noncomputable def ve_4073 : List vm_E := [([.inr (.inr (some 8)), .inl (.ofNat 0, .ofNat 127)], va_h367, 0, [0])]
noncomputable def q_4073 : vm_Q := (10, [.inr (.inr (some 8)), .inl (.ofNat 0, .ofNat 127)], va_h367, vp_4073)
noncomputable def vk_4073 : List vm_U := [(q_3590, false, [])]
noncomputable def vf_4073 : List ((Nat → am_I) → vm_A) := [fun v => (0, [(0, .inr (.inr (some 8))), (1, .inl (.ofNat 0, .ofNat 127))], [], (80, [(1, va_c255)]))]
noncomputable def vd_4073_0_0 : List (List Nat) := [[0]]
noncomputable def vd_4073_0 : List (List (List Nat)) := [vd_4073_0_0]
noncomputable def vd_4073 : List (List (List (List Nat))) := [vd_4073_0]
noncomputable def vt_4073 : List (List am_I) := []
noncomputable def vc_4073 : vm_C := (fun _ => vp_4073, fun pc => [], [], 1, vm_inst 8 1 vt_4073 vf_4073 vd_4073)
theorem vx_4073_0 : vm_chk bt_10 [] vk_4073 14 vc_4073 0 1 = true := by decide +kernel
theorem vy_4073 : vm_ents 10 14 vc_4073 ve_4073 = true := by decide +kernel
theorem vw_4073 : ∀ q ∈ vk_4073, vm_wt 2 q := vm_wts (vm_kc (vm_up v_3590 rfl) vm_kn) (by decide +kernel)
theorem v_4073 : vm_at 3 q_4073 := vm_ok (inl := []) (es := ve_4073) bq_10 (by decide) vw_4073 vy_4073 (fun i => vm_hc vx_4073_0 rfl (fun h => absurd h (Nat.not_lt_zero _))) _ List.mem_cons_self
noncomputable def vp_F_fc_mid (s : Nat) : List vm_R := [(some (.inl (.ofNat (s + 1), .ofNat (s + 1))), (80, [(1, .inr (.inr (.inr (2, [.inr (.inr (some 10)), .inl (.ofNat (s + 1), .ofNat (s + 1)), .inl (.ofNat 0, .ofNat 4), .inl (.ofNat 0, .ofNat 160), .inl am_top, .inl (.ofNat 0, .ofNat 160)]))))]))]
noncomputable def vk_F_fc_mid (s : Nat) : List vm_U := [((q_F_append (s + 0)), false, [])]
noncomputable def vf_F_fc_mid (s : Nat) : List ((Nat → am_I) → vm_A) := [fun v => (0, [(0, .inr (.inr (some 8))), (1, .inl (.ofNat 0, .ofNat 127))], [], (80, [(1, .inr (.inr (.inr (2, [.inr (.inr (some 10)), .inl (.ofNat (s + 0), .ofNat (s + 0)), .inl (.ofNat 0, .ofNat 4), .inl (.ofNat 0, .ofNat 160), .inl am_top, .inl (.ofNat 0, .ofNat 160)]))))]))]
noncomputable def vd_F_fc_mid_0_0 (s : Nat) : List (List Nat) := [[0]]
noncomputable def vd_F_fc_mid_0 (s : Nat) : List (List (List Nat)) := [vd_F_fc_mid_0_0 s]
noncomputable def vd_F_fc_mid (s : Nat) : List (List (List (List Nat))) := [vd_F_fc_mid_0 s]
noncomputable def vt_F_fc_mid (s : Nat) : List (List am_I) := []
noncomputable def vc_F_fc_mid (s : Nat) : vm_C := (fun _ => vp_F_fc_mid s, fun pc => [], [], 1, vm_inst 8 1 (vt_F_fc_mid s) (vf_F_fc_mid s) (vd_F_fc_mid s))
noncomputable def ve_F_fc_mid (s : Nat) : List vm_E := [([.inr (.inr (some 8)), .inl (.ofNat 0, .ofNat 127)], (80, [(1, .inr (.inr (.inr (2, [.inr (.inr (some 10)), .inl (.ofNat (s + 0), .ofNat (s + 0)), .inl (.ofNat 0, .ofNat 4), .inl (.ofNat 0, .ofNat 160), .inl am_top, .inl (.ofNat 0, .ofNat 160)]))))]), 0, [0])]
noncomputable def q_F_fc_mid (s : Nat) : vm_Q := (10, [.inr (.inr (some 8)), .inl (.ofNat 0, .ofNat 127)], (80, [(1, .inr (.inr (.inr (2, [.inr (.inr (some 10)), .inl (.ofNat (s + 0), .ofNat (s + 0)), .inl (.ofNat 0, .ofNat 4), .inl (.ofNat 0, .ofNat 160), .inl am_top, .inl (.ofNat 0, .ofNat 160)]))))]), vp_F_fc_mid s)
theorem vx_F_fc_mid_0 : vm_rng (fun s => vm_chk bt_10 [] (vk_F_fc_mid s) 17 (vc_F_fc_mid s) 0 1 && (vm_ents 10 17 (vc_F_fc_mid s) (ve_F_fc_mid s) && vm_kok (vk_F_fc_mid s))) 0 12 = true := by decide +kernel
theorem vx_F_fc_mid_1 : vm_rng (fun s => vm_chk bt_10 [] (vk_F_fc_mid s) 17 (vc_F_fc_mid s) 0 1 && (vm_ents 10 17 (vc_F_fc_mid s) (ve_F_fc_mid s) && vm_kok (vk_F_fc_mid s))) 12 12 = true := by decide +kernel
theorem vx_F_fc_mid_2 : vm_rng (fun s => vm_chk bt_10 [] (vk_F_fc_mid s) 17 (vc_F_fc_mid s) 0 1 && (vm_ents 10 17 (vc_F_fc_mid s) (ve_F_fc_mid s) && vm_kok (vk_F_fc_mid s))) 24 12 = true := by decide +kernel
theorem vx_F_fc_mid_3 : vm_rng (fun s => vm_chk bt_10 [] (vk_F_fc_mid s) 17 (vc_F_fc_mid s) 0 1 && (vm_ents 10 17 (vc_F_fc_mid s) (ve_F_fc_mid s) && vm_kok (vk_F_fc_mid s))) 36 12 = true := by decide +kernel
theorem vx_F_fc_mid_4 : vm_rng (fun s => vm_chk bt_10 [] (vk_F_fc_mid s) 17 (vc_F_fc_mid s) 0 1 && (vm_ents 10 17 (vc_F_fc_mid s) (ve_F_fc_mid s) && vm_kok (vk_F_fc_mid s))) 48 12 = true := by decide +kernel
theorem vx_F_fc_mid_5 : vm_rng (fun s => vm_chk bt_10 [] (vk_F_fc_mid s) 17 (vc_F_fc_mid s) 0 1 && (vm_ents 10 17 (vc_F_fc_mid s) (ve_F_fc_mid s) && vm_kok (vk_F_fc_mid s))) 60 12 = true := by decide +kernel
theorem vx_F_fc_mid_6 : vm_rng (fun s => vm_chk bt_10 [] (vk_F_fc_mid s) 17 (vc_F_fc_mid s) 0 1 && (vm_ents 10 17 (vc_F_fc_mid s) (ve_F_fc_mid s) && vm_kok (vk_F_fc_mid s))) 72 12 = true := by decide +kernel
theorem vx_F_fc_mid_7 : vm_rng (fun s => vm_chk bt_10 [] (vk_F_fc_mid s) 17 (vc_F_fc_mid s) 0 1 && (vm_ents 10 17 (vc_F_fc_mid s) (ve_F_fc_mid s) && vm_kok (vk_F_fc_mid s))) 84 12 = true := by decide +kernel
theorem vx_F_fc_mid_8 : vm_rng (fun s => vm_chk bt_10 [] (vk_F_fc_mid s) 17 (vc_F_fc_mid s) 0 1 && (vm_ents 10 17 (vc_F_fc_mid s) (ve_F_fc_mid s) && vm_kok (vk_F_fc_mid s))) 96 12 = true := by decide +kernel
theorem vx_F_fc_mid_9 : vm_rng (fun s => vm_chk bt_10 [] (vk_F_fc_mid s) 17 (vc_F_fc_mid s) 0 1 && (vm_ents 10 17 (vc_F_fc_mid s) (ve_F_fc_mid s) && vm_kok (vk_F_fc_mid s))) 108 12 = true := by decide +kernel
theorem vx_F_fc_mid_10 : vm_rng (fun s => vm_chk bt_10 [] (vk_F_fc_mid s) 17 (vc_F_fc_mid s) 0 1 && (vm_ents 10 17 (vc_F_fc_mid s) (ve_F_fc_mid s) && vm_kok (vk_F_fc_mid s))) 120 12 = true := by decide +kernel
theorem vx_F_fc_mid_11 : vm_rng (fun s => vm_chk bt_10 [] (vk_F_fc_mid s) 17 (vc_F_fc_mid s) 0 1 && (vm_ents 10 17 (vc_F_fc_mid s) (ve_F_fc_mid s) && vm_kok (vk_F_fc_mid s))) 132 12 = true := by decide +kernel
theorem vx_F_fc_mid_12 : vm_rng (fun s => vm_chk bt_10 [] (vk_F_fc_mid s) 17 (vc_F_fc_mid s) 0 1 && (vm_ents 10 17 (vc_F_fc_mid s) (ve_F_fc_mid s) && vm_kok (vk_F_fc_mid s))) 144 12 = true := by decide +kernel
theorem vx_F_fc_mid_13 : vm_rng (fun s => vm_chk bt_10 [] (vk_F_fc_mid s) 17 (vc_F_fc_mid s) 0 1 && (vm_ents 10 17 (vc_F_fc_mid s) (ve_F_fc_mid s) && vm_kok (vk_F_fc_mid s))) 156 4 = true := by decide +kernel
set_option maxRecDepth 20000 in
theorem vz_F_fc_mid (s : Nat) (h1 : 0 ≤ s) (h2 : s < 160) : (vm_chk bt_10 [] (vk_F_fc_mid s) 17 (vc_F_fc_mid s) 0 1 && (vm_ents 10 17 (vc_F_fc_mid s) (ve_F_fc_mid s) && vm_kok (vk_F_fc_mid s))) = true := by
  by_cases g0 : s < 12
  · exact vm_rng_ok vx_F_fc_mid_0 s (by omega) (by omega)
  by_cases g1 : s < 24
  · exact vm_rng_ok vx_F_fc_mid_1 s (by omega) (by omega)
  by_cases g2 : s < 36
  · exact vm_rng_ok vx_F_fc_mid_2 s (by omega) (by omega)
  by_cases g3 : s < 48
  · exact vm_rng_ok vx_F_fc_mid_3 s (by omega) (by omega)
  by_cases g4 : s < 60
  · exact vm_rng_ok vx_F_fc_mid_4 s (by omega) (by omega)
  by_cases g5 : s < 72
  · exact vm_rng_ok vx_F_fc_mid_5 s (by omega) (by omega)
  by_cases g6 : s < 84
  · exact vm_rng_ok vx_F_fc_mid_6 s (by omega) (by omega)
  by_cases g7 : s < 96
  · exact vm_rng_ok vx_F_fc_mid_7 s (by omega) (by omega)
  by_cases g8 : s < 108
  · exact vm_rng_ok vx_F_fc_mid_8 s (by omega) (by omega)
  by_cases g9 : s < 120
  · exact vm_rng_ok vx_F_fc_mid_9 s (by omega) (by omega)
  by_cases g10 : s < 132
  · exact vm_rng_ok vx_F_fc_mid_10 s (by omega) (by omega)
  by_cases g11 : s < 144
  · exact vm_rng_ok vx_F_fc_mid_11 s (by omega) (by omega)
  by_cases g12 : s < 156
  · exact vm_rng_ok vx_F_fc_mid_12 s (by omega) (by omega)
  exact vm_rng_ok vx_F_fc_mid_13 s (by omega) (by omega)
theorem v_F_fc_mid (s : Nat) (h1 : 0 ≤ s) (h2 : s < 160) : vm_at 3 (q_F_fc_mid s) := by
  have h := vz_F_fc_mid s h1 h2
  rw [Bool.and_eq_true, Bool.and_eq_true] at h
  exact vm_ok (inl := []) (es := ve_F_fc_mid s) bq_10 (by decide) (vm_wts (L := 2) (vm_kc (vm_up (v_F_append (s + 0) (by omega) (by omega)) rfl) vm_kn) h.2.2) h.2.1 (fun i => vm_hc h.1 rfl (fun h => absurd h (Nat.not_lt_zero _))) _ List.mem_cons_self
noncomputable def va_c256 : am_C := .inr (.inr (.inr (7, [.inr (.inr (some 71)), .inr (.inr (some 72)), .inl (.ofNat 2, .ofNat 5), .inl (.ofNat 2, .ofNat 5), .inl (.ofNat 0, .ofNat 5), .inr (.inr (some 73)), .inl (.ofNat 0, .ofNat 5), .inl (.ofNat 0, .ofNat 5), .inl (.ofNat 0, .ofNat 5), .inl am_top, .inl am_top, .inl am_top, .inr (.inr (some 74)), .inl (.ofNat 160, .ofNat 160), .inl (.ofNat 0, .ofNat 160), .inl (.ofNat 0, .ofNat 160), .inl (.ofNat 0, .ofNat 3), .inl am_top, .inl (.ofNat 0, .ofNat 6), .inl am_top, .inr (.inr (some 75)), .inr (.inr (some 76)), .inr (.inr (some 77)), .inr (.inr (some 78)), .inr (.inr (some 79)), .inr (.inr (some 80)), .inr (.inr (some 81)), .inl (.negSucc 0, .ofNat 6), .inr (.inr (some 82)), .inr (.inr (some 83)), .inr (.inr (some 84)), .inr (.inr (some 85)), .inr (.inr (some 86)), .inl am_top, .inr (.inr (some 87))])))
noncomputable def va_h368 : am_H := (80, [(62, va_c256)])
noncomputable def vp_4234 : List vm_R := [(some (.inl (.negSucc 2, .negSucc 2)), va_h368)]
noncomputable def ve_4234 : List vm_E := [([.inr (.inr (some 70)), .inl (.ofNat 0, .ofNat 127)], va_h368, 0, [0])]
noncomputable def q_4234 : vm_Q := (148, [.inr (.inr (some 70)), .inl (.ofNat 0, .ofNat 127)], va_h368, vp_4234)
noncomputable def vk_4234 : List vm_U := [(q_817, true, [])]
noncomputable def vf_4234 : List ((Nat → am_I) → vm_A) := [fun v => (0, [(0, .inr (.inr (some 70))), (1, .inl (.ofNat 0, .ofNat 127))], [], (80, [(62, va_c256)]))]
noncomputable def vd_4234_0_0 : List (List Nat) := [[0]]
noncomputable def vd_4234_0 : List (List (List Nat)) := [vd_4234_0_0]
noncomputable def vd_4234 : List (List (List (List Nat))) := [vd_4234_0]
noncomputable def vt_4234 : List (List am_I) := []
noncomputable def vc_4234 : vm_C := (fun _ => vp_4234, fun pc => [], [], 1, vm_inst 8 1 vt_4234 vf_4234 vd_4234)
theorem vx_4234_0 : vm_chk bt_148 [] vk_4234 14 vc_4234 0 1 = true := by decide +kernel
theorem vy_4234 : vm_ents 148 14 vc_4234 ve_4234 = true := by decide +kernel
theorem vw_4234 : ∀ q ∈ vk_4234, vm_wt 2 q := vm_wts (vm_kc (vm_up v_817 rfl) vm_kn) (by decide +kernel)
theorem v_4234 : vm_at 3 q_4234 := vm_ok (inl := []) (es := ve_4234) bq_148 (by decide) vw_4234 vy_4234 (fun i => vm_hc vx_4234_0 rfl (fun h => absurd h (Nat.not_lt_zero _))) _ List.mem_cons_self
noncomputable def vp_F_fr_mid (s : Nat) : List vm_R := [(some (.inl (.ofNat (s + 1), .ofNat (s + 1))), (80, [(62, .inr (.inr (.inr (7, [.inr (.inr (some 71)), .inr (.inr (some 72)), .inl (.ofNat 2, .ofNat 5), .inl (.ofNat 2, .ofNat 5), .inl (.ofNat 0, .ofNat 5), .inr (.inr (some 73)), .inl (.ofNat 0, .ofNat 5), .inl (.ofNat 0, .ofNat 5), .inl (.ofNat 0, .ofNat 5), .inl am_top, .inl am_top, .inl am_top, .inr (.inr (some 74)), .inl (.ofNat (s + 1), .ofNat (s + 1)), .inl (.ofNat 0, .ofNat 160), .inl (.ofNat 0, .ofNat 160), .inl (.ofNat 0, .ofNat 3), .inl am_top, .inl (.ofNat 0, .ofNat 6), .inl am_top, .inr (.inr (some 75)), .inr (.inr (some 76)), .inr (.inr (some 77)), .inr (.inr (some 78)), .inr (.inr (some 79)), .inr (.inr (some 80)), .inr (.inr (some 81)), .inl (.negSucc 0, .ofNat 6), .inr (.inr (some 82)), .inr (.inr (some 83)), .inr (.inr (some 84)), .inr (.inr (some 85)), .inr (.inr (some 86)), .inl am_top, .inr (.inr (some 87))]))))]))]
noncomputable def vk_F_fr_mid (s : Nat) : List vm_U := [(q_817, true, [])]
noncomputable def vf_F_fr_mid (s : Nat) : List ((Nat → am_I) → vm_A) := [fun v => (0, [(0, .inr (.inr (some 70))), (1, .inl (.ofNat 0, .ofNat 127))], [], (80, [(62, .inr (.inr (.inr (7, [.inr (.inr (some 71)), .inr (.inr (some 72)), .inl (.ofNat 2, .ofNat 5), .inl (.ofNat 2, .ofNat 5), .inl (.ofNat 0, .ofNat 5), .inr (.inr (some 73)), .inl (.ofNat 0, .ofNat 5), .inl (.ofNat 0, .ofNat 5), .inl (.ofNat 0, .ofNat 5), .inl am_top, .inl am_top, .inl am_top, .inr (.inr (some 74)), .inl (.ofNat (s + 0), .ofNat (s + 0)), .inl (.ofNat 0, .ofNat 160), .inl (.ofNat 0, .ofNat 160), .inl (.ofNat 0, .ofNat 3), .inl am_top, .inl (.ofNat 0, .ofNat 6), .inl am_top, .inr (.inr (some 75)), .inr (.inr (some 76)), .inr (.inr (some 77)), .inr (.inr (some 78)), .inr (.inr (some 79)), .inr (.inr (some 80)), .inr (.inr (some 81)), .inl (.negSucc 0, .ofNat 6), .inr (.inr (some 82)), .inr (.inr (some 83)), .inr (.inr (some 84)), .inr (.inr (some 85)), .inr (.inr (some 86)), .inl am_top, .inr (.inr (some 87))]))))]))]
noncomputable def vd_F_fr_mid_0_0 (s : Nat) : List (List Nat) := [[0]]
noncomputable def vd_F_fr_mid_0 (s : Nat) : List (List (List Nat)) := [vd_F_fr_mid_0_0 s]
noncomputable def vd_F_fr_mid (s : Nat) : List (List (List (List Nat))) := [vd_F_fr_mid_0 s]
noncomputable def vt_F_fr_mid (s : Nat) : List (List am_I) := []
noncomputable def vc_F_fr_mid (s : Nat) : vm_C := (fun _ => vp_F_fr_mid s, fun pc => [], [], 1, vm_inst 8 1 (vt_F_fr_mid s) (vf_F_fr_mid s) (vd_F_fr_mid s))
noncomputable def ve_F_fr_mid (s : Nat) : List vm_E := [([.inr (.inr (some 70)), .inl (.ofNat 0, .ofNat 127)], (80, [(62, .inr (.inr (.inr (7, [.inr (.inr (some 71)), .inr (.inr (some 72)), .inl (.ofNat 2, .ofNat 5), .inl (.ofNat 2, .ofNat 5), .inl (.ofNat 0, .ofNat 5), .inr (.inr (some 73)), .inl (.ofNat 0, .ofNat 5), .inl (.ofNat 0, .ofNat 5), .inl (.ofNat 0, .ofNat 5), .inl am_top, .inl am_top, .inl am_top, .inr (.inr (some 74)), .inl (.ofNat (s + 0), .ofNat (s + 0)), .inl (.ofNat 0, .ofNat 160), .inl (.ofNat 0, .ofNat 160), .inl (.ofNat 0, .ofNat 3), .inl am_top, .inl (.ofNat 0, .ofNat 6), .inl am_top, .inr (.inr (some 75)), .inr (.inr (some 76)), .inr (.inr (some 77)), .inr (.inr (some 78)), .inr (.inr (some 79)), .inr (.inr (some 80)), .inr (.inr (some 81)), .inl (.negSucc 0, .ofNat 6), .inr (.inr (some 82)), .inr (.inr (some 83)), .inr (.inr (some 84)), .inr (.inr (some 85)), .inr (.inr (some 86)), .inl am_top, .inr (.inr (some 87))]))))]), 0, [0])]
noncomputable def q_F_fr_mid (s : Nat) : vm_Q := (148, [.inr (.inr (some 70)), .inl (.ofNat 0, .ofNat 127)], (80, [(62, .inr (.inr (.inr (7, [.inr (.inr (some 71)), .inr (.inr (some 72)), .inl (.ofNat 2, .ofNat 5), .inl (.ofNat 2, .ofNat 5), .inl (.ofNat 0, .ofNat 5), .inr (.inr (some 73)), .inl (.ofNat 0, .ofNat 5), .inl (.ofNat 0, .ofNat 5), .inl (.ofNat 0, .ofNat 5), .inl am_top, .inl am_top, .inl am_top, .inr (.inr (some 74)), .inl (.ofNat (s + 0), .ofNat (s + 0)), .inl (.ofNat 0, .ofNat 160), .inl (.ofNat 0, .ofNat 160), .inl (.ofNat 0, .ofNat 3), .inl am_top, .inl (.ofNat 0, .ofNat 6), .inl am_top, .inr (.inr (some 75)), .inr (.inr (some 76)), .inr (.inr (some 77)), .inr (.inr (some 78)), .inr (.inr (some 79)), .inr (.inr (some 80)), .inr (.inr (some 81)), .inl (.negSucc 0, .ofNat 6), .inr (.inr (some 82)), .inr (.inr (some 83)), .inr (.inr (some 84)), .inr (.inr (some 85)), .inr (.inr (some 86)), .inl am_top, .inr (.inr (some 87))]))))]), vp_F_fr_mid s)
theorem vx_F_fr_mid_0 : vm_rng (fun s => vm_chk bt_148 [] (vk_F_fr_mid s) 27 (vc_F_fr_mid s) 0 1 && (vm_ents 148 27 (vc_F_fr_mid s) (ve_F_fr_mid s) && vm_kok (vk_F_fr_mid s))) 0 8 = true := by decide +kernel
theorem vx_F_fr_mid_1 : vm_rng (fun s => vm_chk bt_148 [] (vk_F_fr_mid s) 27 (vc_F_fr_mid s) 0 1 && (vm_ents 148 27 (vc_F_fr_mid s) (ve_F_fr_mid s) && vm_kok (vk_F_fr_mid s))) 8 8 = true := by decide +kernel
theorem vx_F_fr_mid_2 : vm_rng (fun s => vm_chk bt_148 [] (vk_F_fr_mid s) 27 (vc_F_fr_mid s) 0 1 && (vm_ents 148 27 (vc_F_fr_mid s) (ve_F_fr_mid s) && vm_kok (vk_F_fr_mid s))) 16 8 = true := by decide +kernel
theorem vx_F_fr_mid_3 : vm_rng (fun s => vm_chk bt_148 [] (vk_F_fr_mid s) 27 (vc_F_fr_mid s) 0 1 && (vm_ents 148 27 (vc_F_fr_mid s) (ve_F_fr_mid s) && vm_kok (vk_F_fr_mid s))) 24 8 = true := by decide +kernel
theorem vx_F_fr_mid_4 : vm_rng (fun s => vm_chk bt_148 [] (vk_F_fr_mid s) 27 (vc_F_fr_mid s) 0 1 && (vm_ents 148 27 (vc_F_fr_mid s) (ve_F_fr_mid s) && vm_kok (vk_F_fr_mid s))) 32 8 = true := by decide +kernel
theorem vx_F_fr_mid_5 : vm_rng (fun s => vm_chk bt_148 [] (vk_F_fr_mid s) 27 (vc_F_fr_mid s) 0 1 && (vm_ents 148 27 (vc_F_fr_mid s) (ve_F_fr_mid s) && vm_kok (vk_F_fr_mid s))) 40 8 = true := by decide +kernel
theorem vx_F_fr_mid_6 : vm_rng (fun s => vm_chk bt_148 [] (vk_F_fr_mid s) 27 (vc_F_fr_mid s) 0 1 && (vm_ents 148 27 (vc_F_fr_mid s) (ve_F_fr_mid s) && vm_kok (vk_F_fr_mid s))) 48 8 = true := by decide +kernel
theorem vx_F_fr_mid_7 : vm_rng (fun s => vm_chk bt_148 [] (vk_F_fr_mid s) 27 (vc_F_fr_mid s) 0 1 && (vm_ents 148 27 (vc_F_fr_mid s) (ve_F_fr_mid s) && vm_kok (vk_F_fr_mid s))) 56 8 = true := by decide +kernel
theorem vx_F_fr_mid_8 : vm_rng (fun s => vm_chk bt_148 [] (vk_F_fr_mid s) 27 (vc_F_fr_mid s) 0 1 && (vm_ents 148 27 (vc_F_fr_mid s) (ve_F_fr_mid s) && vm_kok (vk_F_fr_mid s))) 64 8 = true := by decide +kernel
theorem vx_F_fr_mid_9 : vm_rng (fun s => vm_chk bt_148 [] (vk_F_fr_mid s) 27 (vc_F_fr_mid s) 0 1 && (vm_ents 148 27 (vc_F_fr_mid s) (ve_F_fr_mid s) && vm_kok (vk_F_fr_mid s))) 72 8 = true := by decide +kernel
theorem vx_F_fr_mid_10 : vm_rng (fun s => vm_chk bt_148 [] (vk_F_fr_mid s) 27 (vc_F_fr_mid s) 0 1 && (vm_ents 148 27 (vc_F_fr_mid s) (ve_F_fr_mid s) && vm_kok (vk_F_fr_mid s))) 80 8 = true := by decide +kernel
theorem vx_F_fr_mid_11 : vm_rng (fun s => vm_chk bt_148 [] (vk_F_fr_mid s) 27 (vc_F_fr_mid s) 0 1 && (vm_ents 148 27 (vc_F_fr_mid s) (ve_F_fr_mid s) && vm_kok (vk_F_fr_mid s))) 88 8 = true := by decide +kernel
theorem vx_F_fr_mid_12 : vm_rng (fun s => vm_chk bt_148 [] (vk_F_fr_mid s) 27 (vc_F_fr_mid s) 0 1 && (vm_ents 148 27 (vc_F_fr_mid s) (ve_F_fr_mid s) && vm_kok (vk_F_fr_mid s))) 96 8 = true := by decide +kernel
theorem vx_F_fr_mid_13 : vm_rng (fun s => vm_chk bt_148 [] (vk_F_fr_mid s) 27 (vc_F_fr_mid s) 0 1 && (vm_ents 148 27 (vc_F_fr_mid s) (ve_F_fr_mid s) && vm_kok (vk_F_fr_mid s))) 104 8 = true := by decide +kernel
theorem vx_F_fr_mid_14 : vm_rng (fun s => vm_chk bt_148 [] (vk_F_fr_mid s) 27 (vc_F_fr_mid s) 0 1 && (vm_ents 148 27 (vc_F_fr_mid s) (ve_F_fr_mid s) && vm_kok (vk_F_fr_mid s))) 112 8 = true := by decide +kernel
theorem vx_F_fr_mid_15 : vm_rng (fun s => vm_chk bt_148 [] (vk_F_fr_mid s) 27 (vc_F_fr_mid s) 0 1 && (vm_ents 148 27 (vc_F_fr_mid s) (ve_F_fr_mid s) && vm_kok (vk_F_fr_mid s))) 120 8 = true := by decide +kernel
theorem vx_F_fr_mid_16 : vm_rng (fun s => vm_chk bt_148 [] (vk_F_fr_mid s) 27 (vc_F_fr_mid s) 0 1 && (vm_ents 148 27 (vc_F_fr_mid s) (ve_F_fr_mid s) && vm_kok (vk_F_fr_mid s))) 128 8 = true := by decide +kernel
theorem vx_F_fr_mid_17 : vm_rng (fun s => vm_chk bt_148 [] (vk_F_fr_mid s) 27 (vc_F_fr_mid s) 0 1 && (vm_ents 148 27 (vc_F_fr_mid s) (ve_F_fr_mid s) && vm_kok (vk_F_fr_mid s))) 136 8 = true := by decide +kernel
theorem vx_F_fr_mid_18 : vm_rng (fun s => vm_chk bt_148 [] (vk_F_fr_mid s) 27 (vc_F_fr_mid s) 0 1 && (vm_ents 148 27 (vc_F_fr_mid s) (ve_F_fr_mid s) && vm_kok (vk_F_fr_mid s))) 144 8 = true := by decide +kernel
theorem vx_F_fr_mid_19 : vm_rng (fun s => vm_chk bt_148 [] (vk_F_fr_mid s) 27 (vc_F_fr_mid s) 0 1 && (vm_ents 148 27 (vc_F_fr_mid s) (ve_F_fr_mid s) && vm_kok (vk_F_fr_mid s))) 152 8 = true := by decide +kernel
set_option maxRecDepth 20000 in
theorem vz_F_fr_mid (s : Nat) (h1 : 0 ≤ s) (h2 : s < 160) : (vm_chk bt_148 [] (vk_F_fr_mid s) 27 (vc_F_fr_mid s) 0 1 && (vm_ents 148 27 (vc_F_fr_mid s) (ve_F_fr_mid s) && vm_kok (vk_F_fr_mid s))) = true := by
  by_cases g0 : s < 8
  · exact vm_rng_ok vx_F_fr_mid_0 s (by omega) (by omega)
  by_cases g1 : s < 16
  · exact vm_rng_ok vx_F_fr_mid_1 s (by omega) (by omega)
  by_cases g2 : s < 24
  · exact vm_rng_ok vx_F_fr_mid_2 s (by omega) (by omega)
  by_cases g3 : s < 32
  · exact vm_rng_ok vx_F_fr_mid_3 s (by omega) (by omega)
  by_cases g4 : s < 40
  · exact vm_rng_ok vx_F_fr_mid_4 s (by omega) (by omega)
  by_cases g5 : s < 48
  · exact vm_rng_ok vx_F_fr_mid_5 s (by omega) (by omega)
  by_cases g6 : s < 56
  · exact vm_rng_ok vx_F_fr_mid_6 s (by omega) (by omega)
  by_cases g7 : s < 64
  · exact vm_rng_ok vx_F_fr_mid_7 s (by omega) (by omega)
  by_cases g8 : s < 72
  · exact vm_rng_ok vx_F_fr_mid_8 s (by omega) (by omega)
  by_cases g9 : s < 80
  · exact vm_rng_ok vx_F_fr_mid_9 s (by omega) (by omega)
  by_cases g10 : s < 88
  · exact vm_rng_ok vx_F_fr_mid_10 s (by omega) (by omega)
  by_cases g11 : s < 96
  · exact vm_rng_ok vx_F_fr_mid_11 s (by omega) (by omega)
  by_cases g12 : s < 104
  · exact vm_rng_ok vx_F_fr_mid_12 s (by omega) (by omega)
  by_cases g13 : s < 112
  · exact vm_rng_ok vx_F_fr_mid_13 s (by omega) (by omega)
  by_cases g14 : s < 120
  · exact vm_rng_ok vx_F_fr_mid_14 s (by omega) (by omega)
  by_cases g15 : s < 128
  · exact vm_rng_ok vx_F_fr_mid_15 s (by omega) (by omega)
  by_cases g16 : s < 136
  · exact vm_rng_ok vx_F_fr_mid_16 s (by omega) (by omega)
  by_cases g17 : s < 144
  · exact vm_rng_ok vx_F_fr_mid_17 s (by omega) (by omega)
  by_cases g18 : s < 152
  · exact vm_rng_ok vx_F_fr_mid_18 s (by omega) (by omega)
  exact vm_rng_ok vx_F_fr_mid_19 s (by omega) (by omega)
theorem v_F_fr_mid (s : Nat) (h1 : 0 ≤ s) (h2 : s < 160) : vm_at 3 (q_F_fr_mid s) := by
  have h := vz_F_fr_mid s h1 h2
  rw [Bool.and_eq_true, Bool.and_eq_true] at h
  exact vm_ok (inl := []) (es := ve_F_fr_mid s) bq_148 (by decide) (vm_wts (L := 2) (vm_kc (vm_up v_817 rfl) vm_kn) h.2.2) h.2.1 (fun i => vm_hc h.1 rfl (fun h => absurd h (Nat.not_lt_zero _))) _ List.mem_cons_self
noncomputable def vp_F_fc_hi (s : Nat) : List vm_R := [(some (.inl (.negSucc 0, .negSucc 0)), (80, [(1, .inr (.inr (.inr (2, [.inr (.inr (some 10)), .inl (.ofNat (s + 0), .ofNat (s + 0)), .inl (.ofNat 0, .ofNat 4), .inl (.ofNat 0, .ofNat 160), .inl am_top, .inl (.ofNat 0, .ofNat 160)]))))]))]
noncomputable def vk_F_fc_hi (s : Nat) : List vm_U := []
noncomputable def vf_F_fc_hi (s : Nat) : List ((Nat → am_I) → vm_A) := [fun v => (0, [(0, .inr (.inr (some 8))), (1, .inl (.ofNat 128, .ofNat 2147483647))], [], (80, [(1, .inr (.inr (.inr (2, [.inr (.inr (some 10)), .inl (.ofNat (s + 0), .ofNat (s + 0)), .inl (.ofNat 0, .ofNat 4), .inl (.ofNat 0, .ofNat 160), .inl am_top, .inl (.ofNat 0, .ofNat 160)]))))]))]
noncomputable def vd_F_fc_hi_0_0 (s : Nat) : List (List Nat) := [[0]]
noncomputable def vd_F_fc_hi_0 (s : Nat) : List (List (List Nat)) := [vd_F_fc_hi_0_0 s]
noncomputable def vd_F_fc_hi (s : Nat) : List (List (List (List Nat))) := [vd_F_fc_hi_0 s]
noncomputable def vt_F_fc_hi (s : Nat) : List (List am_I) := []
noncomputable def vc_F_fc_hi (s : Nat) : vm_C := (fun _ => vp_F_fc_hi s, fun pc => [], [], 1, vm_inst 8 1 (vt_F_fc_hi s) (vf_F_fc_hi s) (vd_F_fc_hi s))
noncomputable def ve_F_fc_hi (s : Nat) : List vm_E := [([.inr (.inr (some 8)), .inl (.ofNat 128, .ofNat 2147483647)], (80, [(1, .inr (.inr (.inr (2, [.inr (.inr (some 10)), .inl (.ofNat (s + 0), .ofNat (s + 0)), .inl (.ofNat 0, .ofNat 4), .inl (.ofNat 0, .ofNat 160), .inl am_top, .inl (.ofNat 0, .ofNat 160)]))))]), 0, [0])]
noncomputable def q_F_fc_hi (s : Nat) : vm_Q := (10, [.inr (.inr (some 8)), .inl (.ofNat 128, .ofNat 2147483647)], (80, [(1, .inr (.inr (.inr (2, [.inr (.inr (some 10)), .inl (.ofNat (s + 0), .ofNat (s + 0)), .inl (.ofNat 0, .ofNat 4), .inl (.ofNat 0, .ofNat 160), .inl am_top, .inl (.ofNat 0, .ofNat 160)]))))]), vp_F_fc_hi s)
theorem vx_F_fc_hi_0 : vm_rng (fun s => vm_chk bt_10 [] (vk_F_fc_hi s) 9 (vc_F_fc_hi s) 0 1 && (vm_ents 10 9 (vc_F_fc_hi s) (ve_F_fc_hi s) && vm_kok (vk_F_fc_hi s))) 0 18 = true := by decide +kernel
theorem vx_F_fc_hi_1 : vm_rng (fun s => vm_chk bt_10 [] (vk_F_fc_hi s) 9 (vc_F_fc_hi s) 0 1 && (vm_ents 10 9 (vc_F_fc_hi s) (ve_F_fc_hi s) && vm_kok (vk_F_fc_hi s))) 18 18 = true := by decide +kernel
theorem vx_F_fc_hi_2 : vm_rng (fun s => vm_chk bt_10 [] (vk_F_fc_hi s) 9 (vc_F_fc_hi s) 0 1 && (vm_ents 10 9 (vc_F_fc_hi s) (ve_F_fc_hi s) && vm_kok (vk_F_fc_hi s))) 36 18 = true := by decide +kernel
theorem vx_F_fc_hi_3 : vm_rng (fun s => vm_chk bt_10 [] (vk_F_fc_hi s) 9 (vc_F_fc_hi s) 0 1 && (vm_ents 10 9 (vc_F_fc_hi s) (ve_F_fc_hi s) && vm_kok (vk_F_fc_hi s))) 54 18 = true := by decide +kernel
theorem vx_F_fc_hi_4 : vm_rng (fun s => vm_chk bt_10 [] (vk_F_fc_hi s) 9 (vc_F_fc_hi s) 0 1 && (vm_ents 10 9 (vc_F_fc_hi s) (ve_F_fc_hi s) && vm_kok (vk_F_fc_hi s))) 72 18 = true := by decide +kernel
theorem vx_F_fc_hi_5 : vm_rng (fun s => vm_chk bt_10 [] (vk_F_fc_hi s) 9 (vc_F_fc_hi s) 0 1 && (vm_ents 10 9 (vc_F_fc_hi s) (ve_F_fc_hi s) && vm_kok (vk_F_fc_hi s))) 90 18 = true := by decide +kernel
theorem vx_F_fc_hi_6 : vm_rng (fun s => vm_chk bt_10 [] (vk_F_fc_hi s) 9 (vc_F_fc_hi s) 0 1 && (vm_ents 10 9 (vc_F_fc_hi s) (ve_F_fc_hi s) && vm_kok (vk_F_fc_hi s))) 108 18 = true := by decide +kernel
theorem vx_F_fc_hi_7 : vm_rng (fun s => vm_chk bt_10 [] (vk_F_fc_hi s) 9 (vc_F_fc_hi s) 0 1 && (vm_ents 10 9 (vc_F_fc_hi s) (ve_F_fc_hi s) && vm_kok (vk_F_fc_hi s))) 126 18 = true := by decide +kernel
theorem vx_F_fc_hi_8 : vm_rng (fun s => vm_chk bt_10 [] (vk_F_fc_hi s) 9 (vc_F_fc_hi s) 0 1 && (vm_ents 10 9 (vc_F_fc_hi s) (ve_F_fc_hi s) && vm_kok (vk_F_fc_hi s))) 144 17 = true := by decide +kernel
set_option maxRecDepth 20000 in
theorem vz_F_fc_hi (s : Nat) (h1 : 0 ≤ s) (h2 : s < 161) : (vm_chk bt_10 [] (vk_F_fc_hi s) 9 (vc_F_fc_hi s) 0 1 && (vm_ents 10 9 (vc_F_fc_hi s) (ve_F_fc_hi s) && vm_kok (vk_F_fc_hi s))) = true := by
  by_cases g0 : s < 18
  · exact vm_rng_ok vx_F_fc_hi_0 s (by omega) (by omega)
  by_cases g1 : s < 36
  · exact vm_rng_ok vx_F_fc_hi_1 s (by omega) (by omega)
  by_cases g2 : s < 54
  · exact vm_rng_ok vx_F_fc_hi_2 s (by omega) (by omega)
  by_cases g3 : s < 72
  · exact vm_rng_ok vx_F_fc_hi_3 s (by omega) (by omega)
  by_cases g4 : s < 90
  · exact vm_rng_ok vx_F_fc_hi_4 s (by omega) (by omega)
  by_cases g5 : s < 108
  · exact vm_rng_ok vx_F_fc_hi_5 s (by omega) (by omega)
  by_cases g6 : s < 126
  · exact vm_rng_ok vx_F_fc_hi_6 s (by omega) (by omega)
  by_cases g7 : s < 144
  · exact vm_rng_ok vx_F_fc_hi_7 s (by omega) (by omega)
  exact vm_rng_ok vx_F_fc_hi_8 s (by omega) (by omega)
theorem v_F_fc_hi (s : Nat) (h1 : 0 ≤ s) (h2 : s < 161) : vm_at 2 (q_F_fc_hi s) := by
  have h := vz_F_fc_hi s h1 h2
  rw [Bool.and_eq_true, Bool.and_eq_true] at h
  exact vm_ok (inl := []) (es := ve_F_fc_hi s) bq_10 (by decide) (vm_wts (L := 1) vm_kn h.2.2) h.2.1 (fun i => vm_hc h.1 rfl (fun h => absurd h (Nat.not_lt_zero _))) _ List.mem_cons_self
noncomputable def vp_F_fr_hi (s : Nat) : List vm_R := [(some (.inl (.negSucc 0, .negSucc 0)), (80, [(62, .inr (.inr (.inr (7, [.inr (.inr (some 71)), .inr (.inr (some 72)), .inl (.ofNat 2, .ofNat 5), .inl (.ofNat 2, .ofNat 5), .inl (.ofNat 0, .ofNat 5), .inr (.inr (some 73)), .inl (.ofNat 0, .ofNat 5), .inl (.ofNat 0, .ofNat 5), .inl (.ofNat 0, .ofNat 5), .inl am_top, .inl am_top, .inl am_top, .inr (.inr (some 74)), .inl (.ofNat (s + 0), .ofNat (s + 0)), .inl (.ofNat 0, .ofNat 160), .inl (.ofNat 0, .ofNat 160), .inl (.ofNat 0, .ofNat 3), .inl am_top, .inl (.ofNat 0, .ofNat 6), .inl am_top, .inr (.inr (some 75)), .inr (.inr (some 76)), .inr (.inr (some 77)), .inr (.inr (some 78)), .inr (.inr (some 79)), .inr (.inr (some 80)), .inr (.inr (some 81)), .inl (.negSucc 0, .ofNat 6), .inr (.inr (some 82)), .inr (.inr (some 83)), .inr (.inr (some 84)), .inr (.inr (some 85)), .inr (.inr (some 86)), .inl am_top, .inr (.inr (some 87))]))))]))]
noncomputable def vk_F_fr_hi (s : Nat) : List vm_U := [(q_818, true, [])]
noncomputable def vf_F_fr_hi (s : Nat) : List ((Nat → am_I) → vm_A) := [fun v => (0, [(0, .inr (.inr (some 70))), (1, .inl (.ofNat 128, .ofNat 2147483647))], [], (80, [(62, .inr (.inr (.inr (7, [.inr (.inr (some 71)), .inr (.inr (some 72)), .inl (.ofNat 2, .ofNat 5), .inl (.ofNat 2, .ofNat 5), .inl (.ofNat 0, .ofNat 5), .inr (.inr (some 73)), .inl (.ofNat 0, .ofNat 5), .inl (.ofNat 0, .ofNat 5), .inl (.ofNat 0, .ofNat 5), .inl am_top, .inl am_top, .inl am_top, .inr (.inr (some 74)), .inl (.ofNat (s + 0), .ofNat (s + 0)), .inl (.ofNat 0, .ofNat 160), .inl (.ofNat 0, .ofNat 160), .inl (.ofNat 0, .ofNat 3), .inl am_top, .inl (.ofNat 0, .ofNat 6), .inl am_top, .inr (.inr (some 75)), .inr (.inr (some 76)), .inr (.inr (some 77)), .inr (.inr (some 78)), .inr (.inr (some 79)), .inr (.inr (some 80)), .inr (.inr (some 81)), .inl (.negSucc 0, .ofNat 6), .inr (.inr (some 82)), .inr (.inr (some 83)), .inr (.inr (some 84)), .inr (.inr (some 85)), .inr (.inr (some 86)), .inl am_top, .inr (.inr (some 87))]))))]))]
noncomputable def vd_F_fr_hi_0_0 (s : Nat) : List (List Nat) := [[0]]
noncomputable def vd_F_fr_hi_0 (s : Nat) : List (List (List Nat)) := [vd_F_fr_hi_0_0 s]
noncomputable def vd_F_fr_hi (s : Nat) : List (List (List (List Nat))) := [vd_F_fr_hi_0 s]
noncomputable def vt_F_fr_hi (s : Nat) : List (List am_I) := []
noncomputable def vc_F_fr_hi (s : Nat) : vm_C := (fun _ => vp_F_fr_hi s, fun pc => [], [], 1, vm_inst 8 1 (vt_F_fr_hi s) (vf_F_fr_hi s) (vd_F_fr_hi s))
noncomputable def ve_F_fr_hi (s : Nat) : List vm_E := [([.inr (.inr (some 70)), .inl (.ofNat 128, .ofNat 2147483647)], (80, [(62, .inr (.inr (.inr (7, [.inr (.inr (some 71)), .inr (.inr (some 72)), .inl (.ofNat 2, .ofNat 5), .inl (.ofNat 2, .ofNat 5), .inl (.ofNat 0, .ofNat 5), .inr (.inr (some 73)), .inl (.ofNat 0, .ofNat 5), .inl (.ofNat 0, .ofNat 5), .inl (.ofNat 0, .ofNat 5), .inl am_top, .inl am_top, .inl am_top, .inr (.inr (some 74)), .inl (.ofNat (s + 0), .ofNat (s + 0)), .inl (.ofNat 0, .ofNat 160), .inl (.ofNat 0, .ofNat 160), .inl (.ofNat 0, .ofNat 3), .inl am_top, .inl (.ofNat 0, .ofNat 6), .inl am_top, .inr (.inr (some 75)), .inr (.inr (some 76)), .inr (.inr (some 77)), .inr (.inr (some 78)), .inr (.inr (some 79)), .inr (.inr (some 80)), .inr (.inr (some 81)), .inl (.negSucc 0, .ofNat 6), .inr (.inr (some 82)), .inr (.inr (some 83)), .inr (.inr (some 84)), .inr (.inr (some 85)), .inr (.inr (some 86)), .inl am_top, .inr (.inr (some 87))]))))]), 0, [0])]
noncomputable def q_F_fr_hi (s : Nat) : vm_Q := (148, [.inr (.inr (some 70)), .inl (.ofNat 128, .ofNat 2147483647)], (80, [(62, .inr (.inr (.inr (7, [.inr (.inr (some 71)), .inr (.inr (some 72)), .inl (.ofNat 2, .ofNat 5), .inl (.ofNat 2, .ofNat 5), .inl (.ofNat 0, .ofNat 5), .inr (.inr (some 73)), .inl (.ofNat 0, .ofNat 5), .inl (.ofNat 0, .ofNat 5), .inl (.ofNat 0, .ofNat 5), .inl am_top, .inl am_top, .inl am_top, .inr (.inr (some 74)), .inl (.ofNat (s + 0), .ofNat (s + 0)), .inl (.ofNat 0, .ofNat 160), .inl (.ofNat 0, .ofNat 160), .inl (.ofNat 0, .ofNat 3), .inl am_top, .inl (.ofNat 0, .ofNat 6), .inl am_top, .inr (.inr (some 75)), .inr (.inr (some 76)), .inr (.inr (some 77)), .inr (.inr (some 78)), .inr (.inr (some 79)), .inr (.inr (some 80)), .inr (.inr (some 81)), .inl (.negSucc 0, .ofNat 6), .inr (.inr (some 82)), .inr (.inr (some 83)), .inr (.inr (some 84)), .inr (.inr (some 85)), .inr (.inr (some 86)), .inl am_top, .inr (.inr (some 87))]))))]), vp_F_fr_hi s)
theorem vx_F_fr_hi_0 : vm_rng (fun s => vm_chk bt_148 [] (vk_F_fr_hi s) 10 (vc_F_fr_hi s) 0 1 && (vm_ents 148 10 (vc_F_fr_hi s) (ve_F_fr_hi s) && vm_kok (vk_F_fr_hi s))) 0 17 = true := by decide +kernel
theorem vx_F_fr_hi_1 : vm_rng (fun s => vm_chk bt_148 [] (vk_F_fr_hi s) 10 (vc_F_fr_hi s) 0 1 && (vm_ents 148 10 (vc_F_fr_hi s) (ve_F_fr_hi s) && vm_kok (vk_F_fr_hi s))) 17 17 = true := by decide +kernel
theorem vx_F_fr_hi_2 : vm_rng (fun s => vm_chk bt_148 [] (vk_F_fr_hi s) 10 (vc_F_fr_hi s) 0 1 && (vm_ents 148 10 (vc_F_fr_hi s) (ve_F_fr_hi s) && vm_kok (vk_F_fr_hi s))) 34 17 = true := by decide +kernel
theorem vx_F_fr_hi_3 : vm_rng (fun s => vm_chk bt_148 [] (vk_F_fr_hi s) 10 (vc_F_fr_hi s) 0 1 && (vm_ents 148 10 (vc_F_fr_hi s) (ve_F_fr_hi s) && vm_kok (vk_F_fr_hi s))) 51 17 = true := by decide +kernel
theorem vx_F_fr_hi_4 : vm_rng (fun s => vm_chk bt_148 [] (vk_F_fr_hi s) 10 (vc_F_fr_hi s) 0 1 && (vm_ents 148 10 (vc_F_fr_hi s) (ve_F_fr_hi s) && vm_kok (vk_F_fr_hi s))) 68 17 = true := by decide +kernel
theorem vx_F_fr_hi_5 : vm_rng (fun s => vm_chk bt_148 [] (vk_F_fr_hi s) 10 (vc_F_fr_hi s) 0 1 && (vm_ents 148 10 (vc_F_fr_hi s) (ve_F_fr_hi s) && vm_kok (vk_F_fr_hi s))) 85 17 = true := by decide +kernel
theorem vx_F_fr_hi_6 : vm_rng (fun s => vm_chk bt_148 [] (vk_F_fr_hi s) 10 (vc_F_fr_hi s) 0 1 && (vm_ents 148 10 (vc_F_fr_hi s) (ve_F_fr_hi s) && vm_kok (vk_F_fr_hi s))) 102 17 = true := by decide +kernel
theorem vx_F_fr_hi_7 : vm_rng (fun s => vm_chk bt_148 [] (vk_F_fr_hi s) 10 (vc_F_fr_hi s) 0 1 && (vm_ents 148 10 (vc_F_fr_hi s) (ve_F_fr_hi s) && vm_kok (vk_F_fr_hi s))) 119 17 = true := by decide +kernel
theorem vx_F_fr_hi_8 : vm_rng (fun s => vm_chk bt_148 [] (vk_F_fr_hi s) 10 (vc_F_fr_hi s) 0 1 && (vm_ents 148 10 (vc_F_fr_hi s) (ve_F_fr_hi s) && vm_kok (vk_F_fr_hi s))) 136 17 = true := by decide +kernel
theorem vx_F_fr_hi_9 : vm_rng (fun s => vm_chk bt_148 [] (vk_F_fr_hi s) 10 (vc_F_fr_hi s) 0 1 && (vm_ents 148 10 (vc_F_fr_hi s) (ve_F_fr_hi s) && vm_kok (vk_F_fr_hi s))) 153 8 = true := by decide +kernel
set_option maxRecDepth 20000 in
theorem vz_F_fr_hi (s : Nat) (h1 : 0 ≤ s) (h2 : s < 161) : (vm_chk bt_148 [] (vk_F_fr_hi s) 10 (vc_F_fr_hi s) 0 1 && (vm_ents 148 10 (vc_F_fr_hi s) (ve_F_fr_hi s) && vm_kok (vk_F_fr_hi s))) = true := by
  by_cases g0 : s < 17
  · exact vm_rng_ok vx_F_fr_hi_0 s (by omega) (by omega)
  by_cases g1 : s < 34
  · exact vm_rng_ok vx_F_fr_hi_1 s (by omega) (by omega)
  by_cases g2 : s < 51
  · exact vm_rng_ok vx_F_fr_hi_2 s (by omega) (by omega)
  by_cases g3 : s < 68
  · exact vm_rng_ok vx_F_fr_hi_3 s (by omega) (by omega)
  by_cases g4 : s < 85
  · exact vm_rng_ok vx_F_fr_hi_4 s (by omega) (by omega)
  by_cases g5 : s < 102
  · exact vm_rng_ok vx_F_fr_hi_5 s (by omega) (by omega)
  by_cases g6 : s < 119
  · exact vm_rng_ok vx_F_fr_hi_6 s (by omega) (by omega)
  by_cases g7 : s < 136
  · exact vm_rng_ok vx_F_fr_hi_7 s (by omega) (by omega)
  by_cases g8 : s < 153
  · exact vm_rng_ok vx_F_fr_hi_8 s (by omega) (by omega)
  exact vm_rng_ok vx_F_fr_hi_9 s (by omega) (by omega)
theorem v_F_fr_hi (s : Nat) (h1 : 0 ≤ s) (h2 : s < 161) : vm_at 3 (q_F_fr_hi s) := by
  have h := vz_F_fr_hi s h1 h2
  rw [Bool.and_eq_true, Bool.and_eq_true] at h
  exact vm_ok (inl := []) (es := ve_F_fr_hi s) bq_148 (by decide) (vm_wts (L := 2) (vm_kc (vm_up v_818 rfl) vm_kn) h.2.2) h.2.1 (fun i => vm_hc h.1 rfl (fun h => absurd h (Nat.not_lt_zero _))) _ List.mem_cons_self
noncomputable def vp_F_in_lo (s : Nat) : List vm_R := [(some (.inl (.ofNat 0, .ofNat 0)), (80, []))]
noncomputable def vk_F_in_lo (s : Nat) : List vm_U := []
noncomputable def vf_F_in_lo (s : Nat) : List ((Nat → am_I) → vm_A) := [fun v => (0, [(0, .inr (.inl (.negSucc 2147483647, .negSucc 0))), (2, .inr (.inl (.ofNat 0, .ofNat 0))), (4, .inr (.inl (.ofNat (s + 0), .ofNat (s + 0))))], [], (80, []))]
noncomputable def vd_F_in_lo_0_0 (s : Nat) : List (List Nat) := [[0]]
noncomputable def vd_F_in_lo_0 (s : Nat) : List (List (List Nat)) := [vd_F_in_lo_0_0 s]
noncomputable def vd_F_in_lo (s : Nat) : List (List (List (List Nat))) := [vd_F_in_lo_0 s]
noncomputable def vt_F_in_lo (s : Nat) : List (List am_I) := []
noncomputable def vc_F_in_lo (s : Nat) : vm_C := (fun _ => vp_F_in_lo s, fun pc => [], [], 1, vm_inst 8 1 (vt_F_in_lo s) (vf_F_in_lo s) (vd_F_in_lo s))
noncomputable def ve_F_in_lo (s : Nat) : List vm_E := [([.inr (.inl (.negSucc 2147483647, .negSucc 0)), .inr (.inl (.ofNat 0, .ofNat 0)), .inr (.inl (.ofNat (s + 0), .ofNat (s + 0)))], (80, []), 0, [0])]
noncomputable def q_F_in_lo (s : Nat) : vm_Q := (149, [.inr (.inl (.negSucc 2147483647, .negSucc 0)), .inr (.inl (.ofNat 0, .ofNat 0)), .inr (.inl (.ofNat (s + 0), .ofNat (s + 0)))], (80, []), vp_F_in_lo s)
theorem vx_F_in_lo_0 : vm_rng (fun s => vm_chk bt_149 [] (vk_F_in_lo s) 8 (vc_F_in_lo s) 0 1 && (vm_ents 149 8 (vc_F_in_lo s) (ve_F_in_lo s) && vm_kok (vk_F_in_lo s))) 0 20 = true := by decide +kernel
theorem vx_F_in_lo_1 : vm_rng (fun s => vm_chk bt_149 [] (vk_F_in_lo s) 8 (vc_F_in_lo s) 0 1 && (vm_ents 149 8 (vc_F_in_lo s) (ve_F_in_lo s) && vm_kok (vk_F_in_lo s))) 20 20 = true := by decide +kernel
theorem vx_F_in_lo_2 : vm_rng (fun s => vm_chk bt_149 [] (vk_F_in_lo s) 8 (vc_F_in_lo s) 0 1 && (vm_ents 149 8 (vc_F_in_lo s) (ve_F_in_lo s) && vm_kok (vk_F_in_lo s))) 40 20 = true := by decide +kernel
theorem vx_F_in_lo_3 : vm_rng (fun s => vm_chk bt_149 [] (vk_F_in_lo s) 8 (vc_F_in_lo s) 0 1 && (vm_ents 149 8 (vc_F_in_lo s) (ve_F_in_lo s) && vm_kok (vk_F_in_lo s))) 60 20 = true := by decide +kernel
theorem vx_F_in_lo_4 : vm_rng (fun s => vm_chk bt_149 [] (vk_F_in_lo s) 8 (vc_F_in_lo s) 0 1 && (vm_ents 149 8 (vc_F_in_lo s) (ve_F_in_lo s) && vm_kok (vk_F_in_lo s))) 80 20 = true := by decide +kernel
theorem vx_F_in_lo_5 : vm_rng (fun s => vm_chk bt_149 [] (vk_F_in_lo s) 8 (vc_F_in_lo s) 0 1 && (vm_ents 149 8 (vc_F_in_lo s) (ve_F_in_lo s) && vm_kok (vk_F_in_lo s))) 100 20 = true := by decide +kernel
theorem vx_F_in_lo_6 : vm_rng (fun s => vm_chk bt_149 [] (vk_F_in_lo s) 8 (vc_F_in_lo s) 0 1 && (vm_ents 149 8 (vc_F_in_lo s) (ve_F_in_lo s) && vm_kok (vk_F_in_lo s))) 120 20 = true := by decide +kernel
theorem vx_F_in_lo_7 : vm_rng (fun s => vm_chk bt_149 [] (vk_F_in_lo s) 8 (vc_F_in_lo s) 0 1 && (vm_ents 149 8 (vc_F_in_lo s) (ve_F_in_lo s) && vm_kok (vk_F_in_lo s))) 140 20 = true := by decide +kernel
theorem vx_F_in_lo_8 : vm_rng (fun s => vm_chk bt_149 [] (vk_F_in_lo s) 8 (vc_F_in_lo s) 0 1 && (vm_ents 149 8 (vc_F_in_lo s) (ve_F_in_lo s) && vm_kok (vk_F_in_lo s))) 160 1 = true := by decide +kernel
set_option maxRecDepth 20000 in
theorem vz_F_in_lo (s : Nat) (h1 : 0 ≤ s) (h2 : s < 161) : (vm_chk bt_149 [] (vk_F_in_lo s) 8 (vc_F_in_lo s) 0 1 && (vm_ents 149 8 (vc_F_in_lo s) (ve_F_in_lo s) && vm_kok (vk_F_in_lo s))) = true := by
  by_cases g0 : s < 20
  · exact vm_rng_ok vx_F_in_lo_0 s (by omega) (by omega)
  by_cases g1 : s < 40
  · exact vm_rng_ok vx_F_in_lo_1 s (by omega) (by omega)
  by_cases g2 : s < 60
  · exact vm_rng_ok vx_F_in_lo_2 s (by omega) (by omega)
  by_cases g3 : s < 80
  · exact vm_rng_ok vx_F_in_lo_3 s (by omega) (by omega)
  by_cases g4 : s < 100
  · exact vm_rng_ok vx_F_in_lo_4 s (by omega) (by omega)
  by_cases g5 : s < 120
  · exact vm_rng_ok vx_F_in_lo_5 s (by omega) (by omega)
  by_cases g6 : s < 140
  · exact vm_rng_ok vx_F_in_lo_6 s (by omega) (by omega)
  by_cases g7 : s < 160
  · exact vm_rng_ok vx_F_in_lo_7 s (by omega) (by omega)
  exact vm_rng_ok vx_F_in_lo_8 s (by omega) (by omega)
theorem v_F_in_lo (s : Nat) (h1 : 0 ≤ s) (h2 : s < 161) : vm_at 2 (q_F_in_lo s) := by
  have h := vz_F_in_lo s h1 h2
  rw [Bool.and_eq_true, Bool.and_eq_true] at h
  exact vm_ok (inl := []) (es := ve_F_in_lo s) bq_149 (by decide) (vm_wts (L := 1) vm_kn h.2.2) h.2.1 (fun i => vm_hc h.1 rfl (fun h => absurd h (Nat.not_lt_zero _))) _ List.mem_cons_self
noncomputable def vp_F_in_mid (s : Nat) : List vm_R := [(some (.inl (.ofNat 1, .ofNat 1)), (80, []))]
noncomputable def vk_F_in_mid (s : Nat) : List vm_U := []
noncomputable def vf_F_in_mid (s : Nat) : List ((Nat → am_I) → vm_A) := [fun v => (0, [(0, .inr (.inl (.ofNat 0, .ofNat (s + 0)))), (2, .inr (.inl (.ofNat 0, .ofNat 0))), (4, .inr (.inl (.ofNat (s + 0), .ofNat (s + 0))))], [], (80, []))]
noncomputable def vd_F_in_mid_0_0 (s : Nat) : List (List Nat) := [[0]]
noncomputable def vd_F_in_mid_0 (s : Nat) : List (List (List Nat)) := [vd_F_in_mid_0_0 s]
noncomputable def vd_F_in_mid (s : Nat) : List (List (List (List Nat))) := [vd_F_in_mid_0 s]
noncomputable def vt_F_in_mid (s : Nat) : List (List am_I) := []
noncomputable def vc_F_in_mid (s : Nat) : vm_C := (fun _ => vp_F_in_mid s, fun pc => [], [], 1, vm_inst 8 1 (vt_F_in_mid s) (vf_F_in_mid s) (vd_F_in_mid s))
noncomputable def ve_F_in_mid (s : Nat) : List vm_E := [([.inr (.inl (.ofNat 0, .ofNat (s + 0))), .inr (.inl (.ofNat 0, .ofNat 0)), .inr (.inl (.ofNat (s + 0), .ofNat (s + 0)))], (80, []), 0, [0])]
noncomputable def q_F_in_mid (s : Nat) : vm_Q := (149, [.inr (.inl (.ofNat 0, .ofNat (s + 0))), .inr (.inl (.ofNat 0, .ofNat 0)), .inr (.inl (.ofNat (s + 0), .ofNat (s + 0)))], (80, []), vp_F_in_mid s)
theorem vx_F_in_mid_0 : vm_rng (fun s => vm_chk bt_149 [] (vk_F_in_mid s) 13 (vc_F_in_mid s) 0 1 && (vm_ents 149 13 (vc_F_in_mid s) (ve_F_in_mid s) && vm_kok (vk_F_in_mid s))) 0 14 = true := by decide +kernel
theorem vx_F_in_mid_1 : vm_rng (fun s => vm_chk bt_149 [] (vk_F_in_mid s) 13 (vc_F_in_mid s) 0 1 && (vm_ents 149 13 (vc_F_in_mid s) (ve_F_in_mid s) && vm_kok (vk_F_in_mid s))) 14 14 = true := by decide +kernel
theorem vx_F_in_mid_2 : vm_rng (fun s => vm_chk bt_149 [] (vk_F_in_mid s) 13 (vc_F_in_mid s) 0 1 && (vm_ents 149 13 (vc_F_in_mid s) (ve_F_in_mid s) && vm_kok (vk_F_in_mid s))) 28 14 = true := by decide +kernel
theorem vx_F_in_mid_3 : vm_rng (fun s => vm_chk bt_149 [] (vk_F_in_mid s) 13 (vc_F_in_mid s) 0 1 && (vm_ents 149 13 (vc_F_in_mid s) (ve_F_in_mid s) && vm_kok (vk_F_in_mid s))) 42 14 = true := by decide +kernel
theorem vx_F_in_mid_4 : vm_rng (fun s => vm_chk bt_149 [] (vk_F_in_mid s) 13 (vc_F_in_mid s) 0 1 && (vm_ents 149 13 (vc_F_in_mid s) (ve_F_in_mid s) && vm_kok (vk_F_in_mid s))) 56 14 = true := by decide +kernel
theorem vx_F_in_mid_5 : vm_rng (fun s => vm_chk bt_149 [] (vk_F_in_mid s) 13 (vc_F_in_mid s) 0 1 && (vm_ents 149 13 (vc_F_in_mid s) (ve_F_in_mid s) && vm_kok (vk_F_in_mid s))) 70 14 = true := by decide +kernel
theorem vx_F_in_mid_6 : vm_rng (fun s => vm_chk bt_149 [] (vk_F_in_mid s) 13 (vc_F_in_mid s) 0 1 && (vm_ents 149 13 (vc_F_in_mid s) (ve_F_in_mid s) && vm_kok (vk_F_in_mid s))) 84 14 = true := by decide +kernel
theorem vx_F_in_mid_7 : vm_rng (fun s => vm_chk bt_149 [] (vk_F_in_mid s) 13 (vc_F_in_mid s) 0 1 && (vm_ents 149 13 (vc_F_in_mid s) (ve_F_in_mid s) && vm_kok (vk_F_in_mid s))) 98 14 = true := by decide +kernel
theorem vx_F_in_mid_8 : vm_rng (fun s => vm_chk bt_149 [] (vk_F_in_mid s) 13 (vc_F_in_mid s) 0 1 && (vm_ents 149 13 (vc_F_in_mid s) (ve_F_in_mid s) && vm_kok (vk_F_in_mid s))) 112 14 = true := by decide +kernel
theorem vx_F_in_mid_9 : vm_rng (fun s => vm_chk bt_149 [] (vk_F_in_mid s) 13 (vc_F_in_mid s) 0 1 && (vm_ents 149 13 (vc_F_in_mid s) (ve_F_in_mid s) && vm_kok (vk_F_in_mid s))) 126 14 = true := by decide +kernel
theorem vx_F_in_mid_10 : vm_rng (fun s => vm_chk bt_149 [] (vk_F_in_mid s) 13 (vc_F_in_mid s) 0 1 && (vm_ents 149 13 (vc_F_in_mid s) (ve_F_in_mid s) && vm_kok (vk_F_in_mid s))) 140 14 = true := by decide +kernel
theorem vx_F_in_mid_11 : vm_rng (fun s => vm_chk bt_149 [] (vk_F_in_mid s) 13 (vc_F_in_mid s) 0 1 && (vm_ents 149 13 (vc_F_in_mid s) (ve_F_in_mid s) && vm_kok (vk_F_in_mid s))) 154 7 = true := by decide +kernel
set_option maxRecDepth 20000 in
theorem vz_F_in_mid (s : Nat) (h1 : 0 ≤ s) (h2 : s < 161) : (vm_chk bt_149 [] (vk_F_in_mid s) 13 (vc_F_in_mid s) 0 1 && (vm_ents 149 13 (vc_F_in_mid s) (ve_F_in_mid s) && vm_kok (vk_F_in_mid s))) = true := by
  by_cases g0 : s < 14
  · exact vm_rng_ok vx_F_in_mid_0 s (by omega) (by omega)
  by_cases g1 : s < 28
  · exact vm_rng_ok vx_F_in_mid_1 s (by omega) (by omega)
  by_cases g2 : s < 42
  · exact vm_rng_ok vx_F_in_mid_2 s (by omega) (by omega)
  by_cases g3 : s < 56
  · exact vm_rng_ok vx_F_in_mid_3 s (by omega) (by omega)
  by_cases g4 : s < 70
  · exact vm_rng_ok vx_F_in_mid_4 s (by omega) (by omega)
  by_cases g5 : s < 84
  · exact vm_rng_ok vx_F_in_mid_5 s (by omega) (by omega)
  by_cases g6 : s < 98
  · exact vm_rng_ok vx_F_in_mid_6 s (by omega) (by omega)
  by_cases g7 : s < 112
  · exact vm_rng_ok vx_F_in_mid_7 s (by omega) (by omega)
  by_cases g8 : s < 126
  · exact vm_rng_ok vx_F_in_mid_8 s (by omega) (by omega)
  by_cases g9 : s < 140
  · exact vm_rng_ok vx_F_in_mid_9 s (by omega) (by omega)
  by_cases g10 : s < 154
  · exact vm_rng_ok vx_F_in_mid_10 s (by omega) (by omega)
  exact vm_rng_ok vx_F_in_mid_11 s (by omega) (by omega)
theorem v_F_in_mid (s : Nat) (h1 : 0 ≤ s) (h2 : s < 161) : vm_at 2 (q_F_in_mid s) := by
  have h := vz_F_in_mid s h1 h2
  rw [Bool.and_eq_true, Bool.and_eq_true] at h
  exact vm_ok (inl := []) (es := ve_F_in_mid s) bq_149 (by decide) (vm_wts (L := 1) vm_kn h.2.2) h.2.1 (fun i => vm_hc h.1 rfl (fun h => absurd h (Nat.not_lt_zero _))) _ List.mem_cons_self
noncomputable def vp_F_in_hi (s : Nat) : List vm_R := [(some (.inl (.ofNat 0, .ofNat 0)), (80, []))]
noncomputable def vk_F_in_hi (s : Nat) : List vm_U := []
noncomputable def vf_F_in_hi (s : Nat) : List ((Nat → am_I) → vm_A) := [fun v => (0, [(0, .inr (.inl (.ofNat (s + 1), .ofNat 2147483647))), (2, .inr (.inl (.ofNat 0, .ofNat 0))), (4, .inr (.inl (.ofNat (s + 0), .ofNat (s + 0))))], [], (80, []))]
noncomputable def vd_F_in_hi_0_0 (s : Nat) : List (List Nat) := [[0]]
noncomputable def vd_F_in_hi_0 (s : Nat) : List (List (List Nat)) := [vd_F_in_hi_0_0 s]
noncomputable def vd_F_in_hi (s : Nat) : List (List (List (List Nat))) := [vd_F_in_hi_0 s]
noncomputable def vt_F_in_hi (s : Nat) : List (List am_I) := []
noncomputable def vc_F_in_hi (s : Nat) : vm_C := (fun _ => vp_F_in_hi s, fun pc => [], [], 1, vm_inst 8 1 (vt_F_in_hi s) (vf_F_in_hi s) (vd_F_in_hi s))
noncomputable def ve_F_in_hi (s : Nat) : List vm_E := [([.inr (.inl (.ofNat (s + 1), .ofNat 2147483647)), .inr (.inl (.ofNat 0, .ofNat 0)), .inr (.inl (.ofNat (s + 0), .ofNat (s + 0)))], (80, []), 0, [0])]
noncomputable def q_F_in_hi (s : Nat) : vm_Q := (149, [.inr (.inl (.ofNat (s + 1), .ofNat 2147483647)), .inr (.inl (.ofNat 0, .ofNat 0)), .inr (.inl (.ofNat (s + 0), .ofNat (s + 0)))], (80, []), vp_F_in_hi s)
theorem vx_F_in_hi_0 : vm_rng (fun s => vm_chk bt_149 [] (vk_F_in_hi s) 12 (vc_F_in_hi s) 0 1 && (vm_ents 149 12 (vc_F_in_hi s) (ve_F_in_hi s) && vm_kok (vk_F_in_hi s))) 0 15 = true := by decide +kernel
theorem vx_F_in_hi_1 : vm_rng (fun s => vm_chk bt_149 [] (vk_F_in_hi s) 12 (vc_F_in_hi s) 0 1 && (vm_ents 149 12 (vc_F_in_hi s) (ve_F_in_hi s) && vm_kok (vk_F_in_hi s))) 15 15 = true := by decide +kernel
theorem vx_F_in_hi_2 : vm_rng (fun s => vm_chk bt_149 [] (vk_F_in_hi s) 12 (vc_F_in_hi s) 0 1 && (vm_ents 149 12 (vc_F_in_hi s) (ve_F_in_hi s) && vm_kok (vk_F_in_hi s))) 30 15 = true := by decide +kernel
theorem vx_F_in_hi_3 : vm_rng (fun s => vm_chk bt_149 [] (vk_F_in_hi s) 12 (vc_F_in_hi s) 0 1 && (vm_ents 149 12 (vc_F_in_hi s) (ve_F_in_hi s) && vm_kok (vk_F_in_hi s))) 45 15 = true := by decide +kernel
theorem vx_F_in_hi_4 : vm_rng (fun s => vm_chk bt_149 [] (vk_F_in_hi s) 12 (vc_F_in_hi s) 0 1 && (vm_ents 149 12 (vc_F_in_hi s) (ve_F_in_hi s) && vm_kok (vk_F_in_hi s))) 60 15 = true := by decide +kernel
theorem vx_F_in_hi_5 : vm_rng (fun s => vm_chk bt_149 [] (vk_F_in_hi s) 12 (vc_F_in_hi s) 0 1 && (vm_ents 149 12 (vc_F_in_hi s) (ve_F_in_hi s) && vm_kok (vk_F_in_hi s))) 75 15 = true := by decide +kernel
theorem vx_F_in_hi_6 : vm_rng (fun s => vm_chk bt_149 [] (vk_F_in_hi s) 12 (vc_F_in_hi s) 0 1 && (vm_ents 149 12 (vc_F_in_hi s) (ve_F_in_hi s) && vm_kok (vk_F_in_hi s))) 90 15 = true := by decide +kernel
theorem vx_F_in_hi_7 : vm_rng (fun s => vm_chk bt_149 [] (vk_F_in_hi s) 12 (vc_F_in_hi s) 0 1 && (vm_ents 149 12 (vc_F_in_hi s) (ve_F_in_hi s) && vm_kok (vk_F_in_hi s))) 105 15 = true := by decide +kernel
theorem vx_F_in_hi_8 : vm_rng (fun s => vm_chk bt_149 [] (vk_F_in_hi s) 12 (vc_F_in_hi s) 0 1 && (vm_ents 149 12 (vc_F_in_hi s) (ve_F_in_hi s) && vm_kok (vk_F_in_hi s))) 120 15 = true := by decide +kernel
theorem vx_F_in_hi_9 : vm_rng (fun s => vm_chk bt_149 [] (vk_F_in_hi s) 12 (vc_F_in_hi s) 0 1 && (vm_ents 149 12 (vc_F_in_hi s) (ve_F_in_hi s) && vm_kok (vk_F_in_hi s))) 135 15 = true := by decide +kernel
theorem vx_F_in_hi_10 : vm_rng (fun s => vm_chk bt_149 [] (vk_F_in_hi s) 12 (vc_F_in_hi s) 0 1 && (vm_ents 149 12 (vc_F_in_hi s) (ve_F_in_hi s) && vm_kok (vk_F_in_hi s))) 150 11 = true := by decide +kernel
set_option maxRecDepth 20000 in
theorem vz_F_in_hi (s : Nat) (h1 : 0 ≤ s) (h2 : s < 161) : (vm_chk bt_149 [] (vk_F_in_hi s) 12 (vc_F_in_hi s) 0 1 && (vm_ents 149 12 (vc_F_in_hi s) (ve_F_in_hi s) && vm_kok (vk_F_in_hi s))) = true := by
  by_cases g0 : s < 15
  · exact vm_rng_ok vx_F_in_hi_0 s (by omega) (by omega)
  by_cases g1 : s < 30
  · exact vm_rng_ok vx_F_in_hi_1 s (by omega) (by omega)
  by_cases g2 : s < 45
  · exact vm_rng_ok vx_F_in_hi_2 s (by omega) (by omega)
  by_cases g3 : s < 60
  · exact vm_rng_ok vx_F_in_hi_3 s (by omega) (by omega)
  by_cases g4 : s < 75
  · exact vm_rng_ok vx_F_in_hi_4 s (by omega) (by omega)
  by_cases g5 : s < 90
  · exact vm_rng_ok vx_F_in_hi_5 s (by omega) (by omega)
  by_cases g6 : s < 105
  · exact vm_rng_ok vx_F_in_hi_6 s (by omega) (by omega)
  by_cases g7 : s < 120
  · exact vm_rng_ok vx_F_in_hi_7 s (by omega) (by omega)
  by_cases g8 : s < 135
  · exact vm_rng_ok vx_F_in_hi_8 s (by omega) (by omega)
  by_cases g9 : s < 150
  · exact vm_rng_ok vx_F_in_hi_9 s (by omega) (by omega)
  exact vm_rng_ok vx_F_in_hi_10 s (by omega) (by omega)
theorem v_F_in_hi (s : Nat) (h1 : 0 ≤ s) (h2 : s < 161) : vm_at 2 (q_F_in_hi s) := by
  have h := vz_F_in_hi s h1 h2
  rw [Bool.and_eq_true, Bool.and_eq_true] at h
  exact vm_ok (inl := []) (es := ve_F_in_hi s) bq_149 (by decide) (vm_wts (L := 1) vm_kn h.2.2) h.2.1 (fun i => vm_hc h.1 rfl (fun h => absurd h (Nat.not_lt_zero _))) _ List.mem_cons_self
noncomputable def vp_F_in_n (s : Nat) : List vm_R := [(some (.inl (.ofNat 1, .ofNat 1)), (80, []))]
noncomputable def vk_F_in_n (s : Nat) : List vm_U := []
noncomputable def vf_F_in_n (s : Nat) : List ((Nat → am_I) → vm_A) := [fun v => (0, [(0, .inr (.inl (.ofNat (s + 0), .ofNat (s + 0)))), (2, .inr (.inl (.ofNat 0, .ofNat 0))), (4, .inr (.inl (.ofNat (s + 0), .ofNat 160)))], [], (80, []))]
noncomputable def vd_F_in_n_0_0 (s : Nat) : List (List Nat) := [[0]]
noncomputable def vd_F_in_n_0 (s : Nat) : List (List (List Nat)) := [vd_F_in_n_0_0 s]
noncomputable def vd_F_in_n (s : Nat) : List (List (List (List Nat))) := [vd_F_in_n_0 s]
noncomputable def vt_F_in_n (s : Nat) : List (List am_I) := []
noncomputable def vc_F_in_n (s : Nat) : vm_C := (fun _ => vp_F_in_n s, fun pc => [], [], 1, vm_inst 8 1 (vt_F_in_n s) (vf_F_in_n s) (vd_F_in_n s))
noncomputable def ve_F_in_n (s : Nat) : List vm_E := [([.inr (.inl (.ofNat (s + 0), .ofNat (s + 0))), .inr (.inl (.ofNat 0, .ofNat 0)), .inr (.inl (.ofNat (s + 0), .ofNat 160))], (80, []), 0, [0])]
noncomputable def q_F_in_n (s : Nat) : vm_Q := (149, [.inr (.inl (.ofNat (s + 0), .ofNat (s + 0))), .inr (.inl (.ofNat 0, .ofNat 0)), .inr (.inl (.ofNat (s + 0), .ofNat 160))], (80, []), vp_F_in_n s)
theorem vx_F_in_n_0 : vm_rng (fun s => vm_chk bt_149 [] (vk_F_in_n s) 13 (vc_F_in_n s) 0 1 && (vm_ents 149 13 (vc_F_in_n s) (ve_F_in_n s) && vm_kok (vk_F_in_n s))) 0 14 = true := by decide +kernel
theorem vx_F_in_n_1 : vm_rng (fun s => vm_chk bt_149 [] (vk_F_in_n s) 13 (vc_F_in_n s) 0 1 && (vm_ents 149 13 (vc_F_in_n s) (ve_F_in_n s) && vm_kok (vk_F_in_n s))) 14 14 = true := by decide +kernel
theorem vx_F_in_n_2 : vm_rng (fun s => vm_chk bt_149 [] (vk_F_in_n s) 13 (vc_F_in_n s) 0 1 && (vm_ents 149 13 (vc_F_in_n s) (ve_F_in_n s) && vm_kok (vk_F_in_n s))) 28 14 = true := by decide +kernel
theorem vx_F_in_n_3 : vm_rng (fun s => vm_chk bt_149 [] (vk_F_in_n s) 13 (vc_F_in_n s) 0 1 && (vm_ents 149 13 (vc_F_in_n s) (ve_F_in_n s) && vm_kok (vk_F_in_n s))) 42 14 = true := by decide +kernel
theorem vx_F_in_n_4 : vm_rng (fun s => vm_chk bt_149 [] (vk_F_in_n s) 13 (vc_F_in_n s) 0 1 && (vm_ents 149 13 (vc_F_in_n s) (ve_F_in_n s) && vm_kok (vk_F_in_n s))) 56 14 = true := by decide +kernel
theorem vx_F_in_n_5 : vm_rng (fun s => vm_chk bt_149 [] (vk_F_in_n s) 13 (vc_F_in_n s) 0 1 && (vm_ents 149 13 (vc_F_in_n s) (ve_F_in_n s) && vm_kok (vk_F_in_n s))) 70 14 = true := by decide +kernel
theorem vx_F_in_n_6 : vm_rng (fun s => vm_chk bt_149 [] (vk_F_in_n s) 13 (vc_F_in_n s) 0 1 && (vm_ents 149 13 (vc_F_in_n s) (ve_F_in_n s) && vm_kok (vk_F_in_n s))) 84 14 = true := by decide +kernel
theorem vx_F_in_n_7 : vm_rng (fun s => vm_chk bt_149 [] (vk_F_in_n s) 13 (vc_F_in_n s) 0 1 && (vm_ents 149 13 (vc_F_in_n s) (ve_F_in_n s) && vm_kok (vk_F_in_n s))) 98 14 = true := by decide +kernel
theorem vx_F_in_n_8 : vm_rng (fun s => vm_chk bt_149 [] (vk_F_in_n s) 13 (vc_F_in_n s) 0 1 && (vm_ents 149 13 (vc_F_in_n s) (ve_F_in_n s) && vm_kok (vk_F_in_n s))) 112 14 = true := by decide +kernel
theorem vx_F_in_n_9 : vm_rng (fun s => vm_chk bt_149 [] (vk_F_in_n s) 13 (vc_F_in_n s) 0 1 && (vm_ents 149 13 (vc_F_in_n s) (ve_F_in_n s) && vm_kok (vk_F_in_n s))) 126 14 = true := by decide +kernel
theorem vx_F_in_n_10 : vm_rng (fun s => vm_chk bt_149 [] (vk_F_in_n s) 13 (vc_F_in_n s) 0 1 && (vm_ents 149 13 (vc_F_in_n s) (ve_F_in_n s) && vm_kok (vk_F_in_n s))) 140 14 = true := by decide +kernel
theorem vx_F_in_n_11 : vm_rng (fun s => vm_chk bt_149 [] (vk_F_in_n s) 13 (vc_F_in_n s) 0 1 && (vm_ents 149 13 (vc_F_in_n s) (ve_F_in_n s) && vm_kok (vk_F_in_n s))) 154 7 = true := by decide +kernel
set_option maxRecDepth 20000 in
theorem vz_F_in_n (s : Nat) (h1 : 0 ≤ s) (h2 : s < 161) : (vm_chk bt_149 [] (vk_F_in_n s) 13 (vc_F_in_n s) 0 1 && (vm_ents 149 13 (vc_F_in_n s) (ve_F_in_n s) && vm_kok (vk_F_in_n s))) = true := by
  by_cases g0 : s < 14
  · exact vm_rng_ok vx_F_in_n_0 s (by omega) (by omega)
  by_cases g1 : s < 28
  · exact vm_rng_ok vx_F_in_n_1 s (by omega) (by omega)
  by_cases g2 : s < 42
  · exact vm_rng_ok vx_F_in_n_2 s (by omega) (by omega)
  by_cases g3 : s < 56
  · exact vm_rng_ok vx_F_in_n_3 s (by omega) (by omega)
  by_cases g4 : s < 70
  · exact vm_rng_ok vx_F_in_n_4 s (by omega) (by omega)
  by_cases g5 : s < 84
  · exact vm_rng_ok vx_F_in_n_5 s (by omega) (by omega)
  by_cases g6 : s < 98
  · exact vm_rng_ok vx_F_in_n_6 s (by omega) (by omega)
  by_cases g7 : s < 112
  · exact vm_rng_ok vx_F_in_n_7 s (by omega) (by omega)
  by_cases g8 : s < 126
  · exact vm_rng_ok vx_F_in_n_8 s (by omega) (by omega)
  by_cases g9 : s < 140
  · exact vm_rng_ok vx_F_in_n_9 s (by omega) (by omega)
  by_cases g10 : s < 154
  · exact vm_rng_ok vx_F_in_n_10 s (by omega) (by omega)
  exact vm_rng_ok vx_F_in_n_11 s (by omega) (by omega)
theorem v_F_in_n (s : Nat) (h1 : 0 ≤ s) (h2 : s < 161) : vm_at 2 (q_F_in_n s) := by
  have h := vz_F_in_n s h1 h2
  rw [Bool.and_eq_true, Bool.and_eq_true] at h
  exact vm_ok (inl := []) (es := ve_F_in_n s) bq_149 (by decide) (vm_wts (L := 1) vm_kn h.2.2) h.2.1 (fun i => vm_hc h.1 rfl (fun h => absurd h (Nat.not_lt_zero _))) _ List.mem_cons_self
noncomputable def vp_F_ec_lo (s : Nat) : List vm_R := [(some (.inl (.negSucc 0, .negSucc 0)), (80, [(1, .inr (.inr (.inr (2, [.inr (.inr (some 10)), .inl (.ofNat (s + 0), .ofNat (s + 0)), .inl (.ofNat 0, .ofNat 4), .inl (.ofNat 0, .ofNat 160), .inl am_top, .inl (.ofNat 0, .ofNat 160)]))))]))]
noncomputable def vk_F_ec_lo (s : Nat) : List vm_U := []
noncomputable def vf_F_ec_lo (s : Nat) : List ((Nat → am_I) → vm_A) := [fun v => (0, [(0, .inr (.inr (some 8))), (1, .inl (.negSucc 2147483647, .negSucc 0))], [], (80, [(1, .inr (.inr (.inr (2, [.inr (.inr (some 10)), .inl (.ofNat (s + 0), .ofNat (s + 0)), .inl (.ofNat 0, .ofNat 4), .inl (.ofNat 0, .ofNat 160), .inl am_top, .inl (.ofNat 0, .ofNat 160)]))))]))]
noncomputable def vd_F_ec_lo_0_0 (s : Nat) : List (List Nat) := [[0]]
noncomputable def vd_F_ec_lo_0 (s : Nat) : List (List (List Nat)) := [vd_F_ec_lo_0_0 s]
noncomputable def vd_F_ec_lo (s : Nat) : List (List (List (List Nat))) := [vd_F_ec_lo_0 s]
noncomputable def vt_F_ec_lo (s : Nat) : List (List am_I) := []
noncomputable def vc_F_ec_lo (s : Nat) : vm_C := (fun _ => vp_F_ec_lo s, fun pc => [], [], 1, vm_inst 8 1 (vt_F_ec_lo s) (vf_F_ec_lo s) (vd_F_ec_lo s))
noncomputable def ve_F_ec_lo (s : Nat) : List vm_E := [([.inr (.inr (some 8)), .inl (.negSucc 2147483647, .negSucc 0)], (80, [(1, .inr (.inr (.inr (2, [.inr (.inr (some 10)), .inl (.ofNat (s + 0), .ofNat (s + 0)), .inl (.ofNat 0, .ofNat 4), .inl (.ofNat 0, .ofNat 160), .inl am_top, .inl (.ofNat 0, .ofNat 160)]))))]), 0, [0])]
noncomputable def q_F_ec_lo (s : Nat) : vm_Q := (12, [.inr (.inr (some 8)), .inl (.negSucc 2147483647, .negSucc 0)], (80, [(1, .inr (.inr (.inr (2, [.inr (.inr (some 10)), .inl (.ofNat (s + 0), .ofNat (s + 0)), .inl (.ofNat 0, .ofNat 4), .inl (.ofNat 0, .ofNat 160), .inl am_top, .inl (.ofNat 0, .ofNat 160)]))))]), vp_F_ec_lo s)
theorem vx_F_ec_lo_0 : vm_rng (fun s => vm_chk bt_12 [] (vk_F_ec_lo s) 10 (vc_F_ec_lo s) 0 1 && (vm_ents 12 10 (vc_F_ec_lo s) (ve_F_ec_lo s) && vm_kok (vk_F_ec_lo s))) 0 17 = true := by decide +kernel
theorem vx_F_ec_lo_1 : vm_rng (fun s => vm_chk bt_12 [] (vk_F_ec_lo s) 10 (vc_F_ec_lo s) 0 1 && (vm_ents 12 10 (vc_F_ec_lo s) (ve_F_ec_lo s) && vm_kok (vk_F_ec_lo s))) 17 17 = true := by decide +kernel
theorem vx_F_ec_lo_2 : vm_rng (fun s => vm_chk bt_12 [] (vk_F_ec_lo s) 10 (vc_F_ec_lo s) 0 1 && (vm_ents 12 10 (vc_F_ec_lo s) (ve_F_ec_lo s) && vm_kok (vk_F_ec_lo s))) 34 17 = true := by decide +kernel
theorem vx_F_ec_lo_3 : vm_rng (fun s => vm_chk bt_12 [] (vk_F_ec_lo s) 10 (vc_F_ec_lo s) 0 1 && (vm_ents 12 10 (vc_F_ec_lo s) (ve_F_ec_lo s) && vm_kok (vk_F_ec_lo s))) 51 17 = true := by decide +kernel
theorem vx_F_ec_lo_4 : vm_rng (fun s => vm_chk bt_12 [] (vk_F_ec_lo s) 10 (vc_F_ec_lo s) 0 1 && (vm_ents 12 10 (vc_F_ec_lo s) (ve_F_ec_lo s) && vm_kok (vk_F_ec_lo s))) 68 17 = true := by decide +kernel
theorem vx_F_ec_lo_5 : vm_rng (fun s => vm_chk bt_12 [] (vk_F_ec_lo s) 10 (vc_F_ec_lo s) 0 1 && (vm_ents 12 10 (vc_F_ec_lo s) (ve_F_ec_lo s) && vm_kok (vk_F_ec_lo s))) 85 17 = true := by decide +kernel
theorem vx_F_ec_lo_6 : vm_rng (fun s => vm_chk bt_12 [] (vk_F_ec_lo s) 10 (vc_F_ec_lo s) 0 1 && (vm_ents 12 10 (vc_F_ec_lo s) (ve_F_ec_lo s) && vm_kok (vk_F_ec_lo s))) 102 17 = true := by decide +kernel
theorem vx_F_ec_lo_7 : vm_rng (fun s => vm_chk bt_12 [] (vk_F_ec_lo s) 10 (vc_F_ec_lo s) 0 1 && (vm_ents 12 10 (vc_F_ec_lo s) (ve_F_ec_lo s) && vm_kok (vk_F_ec_lo s))) 119 17 = true := by decide +kernel
theorem vx_F_ec_lo_8 : vm_rng (fun s => vm_chk bt_12 [] (vk_F_ec_lo s) 10 (vc_F_ec_lo s) 0 1 && (vm_ents 12 10 (vc_F_ec_lo s) (ve_F_ec_lo s) && vm_kok (vk_F_ec_lo s))) 136 17 = true := by decide +kernel
theorem vx_F_ec_lo_9 : vm_rng (fun s => vm_chk bt_12 [] (vk_F_ec_lo s) 10 (vc_F_ec_lo s) 0 1 && (vm_ents 12 10 (vc_F_ec_lo s) (ve_F_ec_lo s) && vm_kok (vk_F_ec_lo s))) 153 8 = true := by decide +kernel
set_option maxRecDepth 20000 in
theorem vz_F_ec_lo (s : Nat) (h1 : 0 ≤ s) (h2 : s < 161) : (vm_chk bt_12 [] (vk_F_ec_lo s) 10 (vc_F_ec_lo s) 0 1 && (vm_ents 12 10 (vc_F_ec_lo s) (ve_F_ec_lo s) && vm_kok (vk_F_ec_lo s))) = true := by
  by_cases g0 : s < 17
  · exact vm_rng_ok vx_F_ec_lo_0 s (by omega) (by omega)
  by_cases g1 : s < 34
  · exact vm_rng_ok vx_F_ec_lo_1 s (by omega) (by omega)
  by_cases g2 : s < 51
  · exact vm_rng_ok vx_F_ec_lo_2 s (by omega) (by omega)
  by_cases g3 : s < 68
  · exact vm_rng_ok vx_F_ec_lo_3 s (by omega) (by omega)
  by_cases g4 : s < 85
  · exact vm_rng_ok vx_F_ec_lo_4 s (by omega) (by omega)
  by_cases g5 : s < 102
  · exact vm_rng_ok vx_F_ec_lo_5 s (by omega) (by omega)
  by_cases g6 : s < 119
  · exact vm_rng_ok vx_F_ec_lo_6 s (by omega) (by omega)
  by_cases g7 : s < 136
  · exact vm_rng_ok vx_F_ec_lo_7 s (by omega) (by omega)
  by_cases g8 : s < 153
  · exact vm_rng_ok vx_F_ec_lo_8 s (by omega) (by omega)
  exact vm_rng_ok vx_F_ec_lo_9 s (by omega) (by omega)
theorem v_F_ec_lo (s : Nat) (h1 : 0 ≤ s) (h2 : s < 161) : vm_at 2 (q_F_ec_lo s) := by
  have h := vz_F_ec_lo s h1 h2
  rw [Bool.and_eq_true, Bool.and_eq_true] at h
  exact vm_ok (inl := []) (es := ve_F_ec_lo s) bq_12 (by decide) (vm_wts (L := 1) vm_kn h.2.2) h.2.1 (fun i => vm_hc h.1 rfl (fun h => absurd h (Nat.not_lt_zero _))) _ List.mem_cons_self
noncomputable def vp_F_er_lo (s : Nat) : List vm_R := [(some (.inl (.negSucc 0, .negSucc 0)), (80, [(62, .inr (.inr (.inr (7, [.inr (.inr (some 71)), .inr (.inr (some 72)), .inl (.ofNat 2, .ofNat 5), .inl (.ofNat 2, .ofNat 5), .inl (.ofNat 0, .ofNat 5), .inr (.inr (some 73)), .inl (.ofNat 0, .ofNat 5), .inl (.ofNat 0, .ofNat 5), .inl (.ofNat 0, .ofNat 5), .inl am_top, .inl am_top, .inl am_top, .inr (.inr (some 74)), .inl (.ofNat (s + 0), .ofNat (s + 0)), .inl (.ofNat 0, .ofNat 160), .inl (.ofNat 0, .ofNat 160), .inl (.ofNat 0, .ofNat 3), .inl am_top, .inl (.ofNat 0, .ofNat 6), .inl am_top, .inr (.inr (some 75)), .inr (.inr (some 76)), .inr (.inr (some 77)), .inr (.inr (some 78)), .inr (.inr (some 79)), .inr (.inr (some 80)), .inr (.inr (some 81)), .inl (.negSucc 0, .ofNat 6), .inr (.inr (some 82)), .inr (.inr (some 83)), .inr (.inr (some 84)), .inr (.inr (some 85)), .inr (.inr (some 86)), .inl am_top, .inr (.inr (some 87))]))))]))]
noncomputable def vk_F_er_lo (s : Nat) : List vm_U := [((q_F_in_lo (s + 0)), true, [])]
noncomputable def vf_F_er_lo (s : Nat) : List ((Nat → am_I) → vm_A) := [fun v => (0, [(0, .inr (.inr (some 70))), (1, .inl (.negSucc 2147483647, .negSucc 0))], [], (80, [(62, .inr (.inr (.inr (7, [.inr (.inr (some 71)), .inr (.inr (some 72)), .inl (.ofNat 2, .ofNat 5), .inl (.ofNat 2, .ofNat 5), .inl (.ofNat 0, .ofNat 5), .inr (.inr (some 73)), .inl (.ofNat 0, .ofNat 5), .inl (.ofNat 0, .ofNat 5), .inl (.ofNat 0, .ofNat 5), .inl am_top, .inl am_top, .inl am_top, .inr (.inr (some 74)), .inl (.ofNat (s + 0), .ofNat (s + 0)), .inl (.ofNat 0, .ofNat 160), .inl (.ofNat 0, .ofNat 160), .inl (.ofNat 0, .ofNat 3), .inl am_top, .inl (.ofNat 0, .ofNat 6), .inl am_top, .inr (.inr (some 75)), .inr (.inr (some 76)), .inr (.inr (some 77)), .inr (.inr (some 78)), .inr (.inr (some 79)), .inr (.inr (some 80)), .inr (.inr (some 81)), .inl (.negSucc 0, .ofNat 6), .inr (.inr (some 82)), .inr (.inr (some 83)), .inr (.inr (some 84)), .inr (.inr (some 85)), .inr (.inr (some 86)), .inl am_top, .inr (.inr (some 87))]))))]))]
noncomputable def vd_F_er_lo_0_0 (s : Nat) : List (List Nat) := [[0]]
noncomputable def vd_F_er_lo_0 (s : Nat) : List (List (List Nat)) := [vd_F_er_lo_0_0 s]
noncomputable def vd_F_er_lo (s : Nat) : List (List (List (List Nat))) := [vd_F_er_lo_0 s]
noncomputable def vt_F_er_lo (s : Nat) : List (List am_I) := []
noncomputable def vc_F_er_lo (s : Nat) : vm_C := (fun _ => vp_F_er_lo s, fun pc => [], [], 1, vm_inst 8 1 (vt_F_er_lo s) (vf_F_er_lo s) (vd_F_er_lo s))
noncomputable def ve_F_er_lo (s : Nat) : List vm_E := [([.inr (.inr (some 70)), .inl (.negSucc 2147483647, .negSucc 0)], (80, [(62, .inr (.inr (.inr (7, [.inr (.inr (some 71)), .inr (.inr (some 72)), .inl (.ofNat 2, .ofNat 5), .inl (.ofNat 2, .ofNat 5), .inl (.ofNat 0, .ofNat 5), .inr (.inr (some 73)), .inl (.ofNat 0, .ofNat 5), .inl (.ofNat 0, .ofNat 5), .inl (.ofNat 0, .ofNat 5), .inl am_top, .inl am_top, .inl am_top, .inr (.inr (some 74)), .inl (.ofNat (s + 0), .ofNat (s + 0)), .inl (.ofNat 0, .ofNat 160), .inl (.ofNat 0, .ofNat 160), .inl (.ofNat 0, .ofNat 3), .inl am_top, .inl (.ofNat 0, .ofNat 6), .inl am_top, .inr (.inr (some 75)), .inr (.inr (some 76)), .inr (.inr (some 77)), .inr (.inr (some 78)), .inr (.inr (some 79)), .inr (.inr (some 80)), .inr (.inr (some 81)), .inl (.negSucc 0, .ofNat 6), .inr (.inr (some 82)), .inr (.inr (some 83)), .inr (.inr (some 84)), .inr (.inr (some 85)), .inr (.inr (some 86)), .inl am_top, .inr (.inr (some 87))]))))]), 0, [0])]
noncomputable def q_F_er_lo (s : Nat) : vm_Q := (150, [.inr (.inr (some 70)), .inl (.negSucc 2147483647, .negSucc 0)], (80, [(62, .inr (.inr (.inr (7, [.inr (.inr (some 71)), .inr (.inr (some 72)), .inl (.ofNat 2, .ofNat 5), .inl (.ofNat 2, .ofNat 5), .inl (.ofNat 0, .ofNat 5), .inr (.inr (some 73)), .inl (.ofNat 0, .ofNat 5), .inl (.ofNat 0, .ofNat 5), .inl (.ofNat 0, .ofNat 5), .inl am_top, .inl am_top, .inl am_top, .inr (.inr (some 74)), .inl (.ofNat (s + 0), .ofNat (s + 0)), .inl (.ofNat 0, .ofNat 160), .inl (.ofNat 0, .ofNat 160), .inl (.ofNat 0, .ofNat 3), .inl am_top, .inl (.ofNat 0, .ofNat 6), .inl am_top, .inr (.inr (some 75)), .inr (.inr (some 76)), .inr (.inr (some 77)), .inr (.inr (some 78)), .inr (.inr (some 79)), .inr (.inr (some 80)), .inr (.inr (some 81)), .inl (.negSucc 0, .ofNat 6), .inr (.inr (some 82)), .inr (.inr (some 83)), .inr (.inr (some 84)), .inr (.inr (some 85)), .inr (.inr (some 86)), .inl am_top, .inr (.inr (some 87))]))))]), vp_F_er_lo s)
theorem vx_F_er_lo_0 : vm_rng (fun s => vm_chk bt_150 [] (vk_F_er_lo s) 12 (vc_F_er_lo s) 0 1 && (vm_ents 150 12 (vc_F_er_lo s) (ve_F_er_lo s) && vm_kok (vk_F_er_lo s))) 0 15 = true := by decide +kernel
theorem vx_F_er_lo_1 : vm_rng (fun s => vm_chk bt_150 [] (vk_F_er_lo s) 12 (vc_F_er_lo s) 0 1 && (vm_ents 150 12 (vc_F_er_lo s) (ve_F_er_lo s) && vm_kok (vk_F_er_lo s))) 15 15 = true := by decide +kernel
theorem vx_F_er_lo_2 : vm_rng (fun s => vm_chk bt_150 [] (vk_F_er_lo s) 12 (vc_F_er_lo s) 0 1 && (vm_ents 150 12 (vc_F_er_lo s) (ve_F_er_lo s) && vm_kok (vk_F_er_lo s))) 30 15 = true := by decide +kernel
theorem vx_F_er_lo_3 : vm_rng (fun s => vm_chk bt_150 [] (vk_F_er_lo s) 12 (vc_F_er_lo s) 0 1 && (vm_ents 150 12 (vc_F_er_lo s) (ve_F_er_lo s) && vm_kok (vk_F_er_lo s))) 45 15 = true := by decide +kernel
theorem vx_F_er_lo_4 : vm_rng (fun s => vm_chk bt_150 [] (vk_F_er_lo s) 12 (vc_F_er_lo s) 0 1 && (vm_ents 150 12 (vc_F_er_lo s) (ve_F_er_lo s) && vm_kok (vk_F_er_lo s))) 60 15 = true := by decide +kernel
theorem vx_F_er_lo_5 : vm_rng (fun s => vm_chk bt_150 [] (vk_F_er_lo s) 12 (vc_F_er_lo s) 0 1 && (vm_ents 150 12 (vc_F_er_lo s) (ve_F_er_lo s) && vm_kok (vk_F_er_lo s))) 75 15 = true := by decide +kernel
theorem vx_F_er_lo_6 : vm_rng (fun s => vm_chk bt_150 [] (vk_F_er_lo s) 12 (vc_F_er_lo s) 0 1 && (vm_ents 150 12 (vc_F_er_lo s) (ve_F_er_lo s) && vm_kok (vk_F_er_lo s))) 90 15 = true := by decide +kernel
theorem vx_F_er_lo_7 : vm_rng (fun s => vm_chk bt_150 [] (vk_F_er_lo s) 12 (vc_F_er_lo s) 0 1 && (vm_ents 150 12 (vc_F_er_lo s) (ve_F_er_lo s) && vm_kok (vk_F_er_lo s))) 105 15 = true := by decide +kernel
theorem vx_F_er_lo_8 : vm_rng (fun s => vm_chk bt_150 [] (vk_F_er_lo s) 12 (vc_F_er_lo s) 0 1 && (vm_ents 150 12 (vc_F_er_lo s) (ve_F_er_lo s) && vm_kok (vk_F_er_lo s))) 120 15 = true := by decide +kernel
theorem vx_F_er_lo_9 : vm_rng (fun s => vm_chk bt_150 [] (vk_F_er_lo s) 12 (vc_F_er_lo s) 0 1 && (vm_ents 150 12 (vc_F_er_lo s) (ve_F_er_lo s) && vm_kok (vk_F_er_lo s))) 135 15 = true := by decide +kernel
theorem vx_F_er_lo_10 : vm_rng (fun s => vm_chk bt_150 [] (vk_F_er_lo s) 12 (vc_F_er_lo s) 0 1 && (vm_ents 150 12 (vc_F_er_lo s) (ve_F_er_lo s) && vm_kok (vk_F_er_lo s))) 150 11 = true := by decide +kernel
set_option maxRecDepth 20000 in
theorem vz_F_er_lo (s : Nat) (h1 : 0 ≤ s) (h2 : s < 161) : (vm_chk bt_150 [] (vk_F_er_lo s) 12 (vc_F_er_lo s) 0 1 && (vm_ents 150 12 (vc_F_er_lo s) (ve_F_er_lo s) && vm_kok (vk_F_er_lo s))) = true := by
  by_cases g0 : s < 15
  · exact vm_rng_ok vx_F_er_lo_0 s (by omega) (by omega)
  by_cases g1 : s < 30
  · exact vm_rng_ok vx_F_er_lo_1 s (by omega) (by omega)
  by_cases g2 : s < 45
  · exact vm_rng_ok vx_F_er_lo_2 s (by omega) (by omega)
  by_cases g3 : s < 60
  · exact vm_rng_ok vx_F_er_lo_3 s (by omega) (by omega)
  by_cases g4 : s < 75
  · exact vm_rng_ok vx_F_er_lo_4 s (by omega) (by omega)
  by_cases g5 : s < 90
  · exact vm_rng_ok vx_F_er_lo_5 s (by omega) (by omega)
  by_cases g6 : s < 105
  · exact vm_rng_ok vx_F_er_lo_6 s (by omega) (by omega)
  by_cases g7 : s < 120
  · exact vm_rng_ok vx_F_er_lo_7 s (by omega) (by omega)
  by_cases g8 : s < 135
  · exact vm_rng_ok vx_F_er_lo_8 s (by omega) (by omega)
  by_cases g9 : s < 150
  · exact vm_rng_ok vx_F_er_lo_9 s (by omega) (by omega)
  exact vm_rng_ok vx_F_er_lo_10 s (by omega) (by omega)
theorem v_F_er_lo (s : Nat) (h1 : 0 ≤ s) (h2 : s < 161) : vm_at 3 (q_F_er_lo s) := by
  have h := vz_F_er_lo s h1 h2
  rw [Bool.and_eq_true, Bool.and_eq_true] at h
  exact vm_ok (inl := []) (es := ve_F_er_lo s) bq_150 (by decide) (vm_wts (L := 2) (vm_kc (vm_up (v_F_in_lo (s + 0) (by omega) (by omega)) rfl) vm_kn) h.2.2) h.2.1 (fun i => vm_hc h.1 rfl (fun h => absurd h (Nat.not_lt_zero _))) _ List.mem_cons_self
noncomputable def vp_5683 : List vm_R := [(some (.inl (.ofNat 160, .ofNat 160)), va_h0)]
noncomputable def ve_5683 : List vm_E := [([.inr (.inr (some 8)), .inl (.ofNat 0, .ofNat 160)], va_h367, 0, [0])]
noncomputable def q_5683 : vm_Q := (12, [.inr (.inr (some 8)), .inl (.ofNat 0, .ofNat 160)], va_h367, vp_5683)
noncomputable def vk_5683 : List vm_U := []
noncomputable def vf_5683 : List ((Nat → am_I) → vm_A) := [fun v => (0, [(0, .inr (.inr (some 8))), (1, .inl (.ofNat 0, .ofNat 160))], [], (80, [(1, va_c255)]))]
noncomputable def vd_5683_0_0 : List (List Nat) := [[0]]
noncomputable def vd_5683_0 : List (List (List Nat)) := [vd_5683_0_0]
noncomputable def vd_5683 : List (List (List (List Nat))) := [vd_5683_0]
noncomputable def vt_5683 : List (List am_I) := []
noncomputable def vc_5683 : vm_C := (fun _ => vp_5683, fun pc => [], [], 1, vm_inst 8 1 vt_5683 vf_5683 vd_5683)
theorem vx_5683_0 : vm_chk bt_12 [] vk_5683 17 vc_5683 0 1 = true := by decide +kernel
theorem vy_5683 : vm_ents 12 17 vc_5683 ve_5683 = true := by decide +kernel
theorem vw_5683 : ∀ q ∈ vk_5683, vm_wt 1 q := vm_wts vm_kn (by decide +kernel)
theorem v_5683 : vm_at 2 q_5683 := vm_ok (inl := []) (es := ve_5683) bq_12 (by decide) vw_5683 vy_5683 (fun i => vm_hc vx_5683_0 rfl (fun h => absurd h (Nat.not_lt_zero _))) _ List.mem_cons_self
noncomputable def vp_F_ec_mid (s : Nat) : List vm_R := [(some (.inl (.ofNat (s + 0), .ofNat (s + 0))), (80, [(1, .inr (.inr (.inr (2, [.inr (.inr (some 10)), .inl (.ofNat 0, .ofNat (s + 0)), .inl (.ofNat 0, .ofNat 4), .inl (.ofNat 0, .ofNat 160), .inl am_top, .inl (.ofNat 0, .ofNat 160)]))))]))]
noncomputable def vk_F_ec_mid (s : Nat) : List vm_U := []
noncomputable def vf_F_ec_mid (s : Nat) : List ((Nat → am_I) → vm_A) := [fun v => (0, [(0, .inr (.inr (some 8))), (1, .inl (.ofNat 0, .ofNat (s + 0)))], [], (80, [(1, .inr (.inr (.inr (2, [.inr (.inr (some 10)), .inl (.ofNat (s + 0), .ofNat (s + 0)), .inl (.ofNat 0, .ofNat 4), .inl (.ofNat 0, .ofNat 160), .inl am_top, .inl (.ofNat 0, .ofNat 160)]))))]))]
noncomputable def vd_F_ec_mid_0_0 (s : Nat) : List (List Nat) := [[0]]
noncomputable def vd_F_ec_mid_0 (s : Nat) : List (List (List Nat)) := [vd_F_ec_mid_0_0 s]
noncomputable def vd_F_ec_mid (s : Nat) : List (List (List (List Nat))) := [vd_F_ec_mid_0 s]
noncomputable def vt_F_ec_mid (s : Nat) : List (List am_I) := []
noncomputable def vc_F_ec_mid (s : Nat) : vm_C := (fun _ => vp_F_ec_mid s, fun pc => [], [], 1, vm_inst 8 1 (vt_F_ec_mid s) (vf_F_ec_mid s) (vd_F_ec_mid s))
noncomputable def ve_F_ec_mid (s : Nat) : List vm_E := [([.inr (.inr (some 8)), .inl (.ofNat 0, .ofNat (s + 0))], (80, [(1, .inr (.inr (.inr (2, [.inr (.inr (some 10)), .inl (.ofNat (s + 0), .ofNat (s + 0)), .inl (.ofNat 0, .ofNat 4), .inl (.ofNat 0, .ofNat 160), .inl am_top, .inl (.ofNat 0, .ofNat 160)]))))]), 0, [0])]
noncomputable def q_F_ec_mid (s : Nat) : vm_Q := (12, [.inr (.inr (some 8)), .inl (.ofNat 0, .ofNat (s + 0))], (80, [(1, .inr (.inr (.inr (2, [.inr (.inr (some 10)), .inl (.ofNat (s + 0), .ofNat (s + 0)), .inl (.ofNat 0, .ofNat 4), .inl (.ofNat 0, .ofNat 160), .inl am_top, .inl (.ofNat 0, .ofNat 160)]))))]), vp_F_ec_mid s)
theorem vx_F_ec_mid_0 : vm_rng (fun s => vm_chk bt_12 [] (vk_F_ec_mid s) 17 (vc_F_ec_mid s) 0 1 && (vm_ents 12 17 (vc_F_ec_mid s) (ve_F_ec_mid s) && vm_kok (vk_F_ec_mid s))) 0 12 = true := by decide +kernel
theorem vx_F_ec_mid_1 : vm_rng (fun s => vm_chk bt_12 [] (vk_F_ec_mid s) 17 (vc_F_ec_mid s) 0 1 && (vm_ents 12 17 (vc_F_ec_mid s) (ve_F_ec_mid s) && vm_kok (vk_F_ec_mid s))) 12 12 = true := by decide +kernel
theorem vx_F_ec_mid_2 : vm_rng (fun s => vm_chk bt_12 [] (vk_F_ec_mid s) 17 (vc_F_ec_mid s) 0 1 && (vm_ents 12 17 (vc_F_ec_mid s) (ve_F_ec_mid s) && vm_kok (vk_F_ec_mid s))) 24 12 = true := by decide +kernel
theorem vx_F_ec_mid_3 : vm_rng (fun s => vm_chk bt_12 [] (vk_F_ec_mid s) 17 (vc_F_ec_mid s) 0 1 && (vm_ents 12 17 (vc_F_ec_mid s) (ve_F_ec_mid s) && vm_kok (vk_F_ec_mid s))) 36 12 = true := by decide +kernel
theorem vx_F_ec_mid_4 : vm_rng (fun s => vm_chk bt_12 [] (vk_F_ec_mid s) 17 (vc_F_ec_mid s) 0 1 && (vm_ents 12 17 (vc_F_ec_mid s) (ve_F_ec_mid s) && vm_kok (vk_F_ec_mid s))) 48 12 = true := by decide +kernel
theorem vx_F_ec_mid_5 : vm_rng (fun s => vm_chk bt_12 [] (vk_F_ec_mid s) 17 (vc_F_ec_mid s) 0 1 && (vm_ents 12 17 (vc_F_ec_mid s) (ve_F_ec_mid s) && vm_kok (vk_F_ec_mid s))) 60 12 = true := by decide +kernel
theorem vx_F_ec_mid_6 : vm_rng (fun s => vm_chk bt_12 [] (vk_F_ec_mid s) 17 (vc_F_ec_mid s) 0 1 && (vm_ents 12 17 (vc_F_ec_mid s) (ve_F_ec_mid s) && vm_kok (vk_F_ec_mid s))) 72 12 = true := by decide +kernel
theorem vx_F_ec_mid_7 : vm_rng (fun s => vm_chk bt_12 [] (vk_F_ec_mid s) 17 (vc_F_ec_mid s) 0 1 && (vm_ents 12 17 (vc_F_ec_mid s) (ve_F_ec_mid s) && vm_kok (vk_F_ec_mid s))) 84 12 = true := by decide +kernel
theorem vx_F_ec_mid_8 : vm_rng (fun s => vm_chk bt_12 [] (vk_F_ec_mid s) 17 (vc_F_ec_mid s) 0 1 && (vm_ents 12 17 (vc_F_ec_mid s) (ve_F_ec_mid s) && vm_kok (vk_F_ec_mid s))) 96 12 = true := by decide +kernel
theorem vx_F_ec_mid_9 : vm_rng (fun s => vm_chk bt_12 [] (vk_F_ec_mid s) 17 (vc_F_ec_mid s) 0 1 && (vm_ents 12 17 (vc_F_ec_mid s) (ve_F_ec_mid s) && vm_kok (vk_F_ec_mid s))) 108 12 = true := by decide +kernel
theorem vx_F_ec_mid_10 : vm_rng (fun s => vm_chk bt_12 [] (vk_F_ec_mid s) 17 (vc_F_ec_mid s) 0 1 && (vm_ents 12 17 (vc_F_ec_mid s) (ve_F_ec_mid s) && vm_kok (vk_F_ec_mid s))) 120 12 = true := by decide +kernel
theorem vx_F_ec_mid_11 : vm_rng (fun s => vm_chk bt_12 [] (vk_F_ec_mid s) 17 (vc_F_ec_mid s) 0 1 && (vm_ents 12 17 (vc_F_ec_mid s) (ve_F_ec_mid s) && vm_kok (vk_F_ec_mid s))) 132 12 = true := by decide +kernel
theorem vx_F_ec_mid_12 : vm_rng (fun s => vm_chk bt_12 [] (vk_F_ec_mid s) 17 (vc_F_ec_mid s) 0 1 && (vm_ents 12 17 (vc_F_ec_mid s) (ve_F_ec_mid s) && vm_kok (vk_F_ec_mid s))) 144 12 = true := by decide +kernel
theorem vx_F_ec_mid_13 : vm_rng (fun s => vm_chk bt_12 [] (vk_F_ec_mid s) 17 (vc_F_ec_mid s) 0 1 && (vm_ents 12 17 (vc_F_ec_mid s) (ve_F_ec_mid s) && vm_kok (vk_F_ec_mid s))) 156 4 = true := by decide +kernel
set_option maxRecDepth 20000 in
theorem vz_F_ec_mid (s : Nat) (h1 : 0 ≤ s) (h2 : s < 160) : (vm_chk bt_12 [] (vk_F_ec_mid s) 17 (vc_F_ec_mid s) 0 1 && (vm_ents 12 17 (vc_F_ec_mid s) (ve_F_ec_mid s) && vm_kok (vk_F_ec_mid s))) = true := by
  by_cases g0 : s < 12
  · exact vm_rng_ok vx_F_ec_mid_0 s (by omega) (by omega)
  by_cases g1 : s < 24
  · exact vm_rng_ok vx_F_ec_mid_1 s (by omega) (by omega)
  by_cases g2 : s < 36
  · exact vm_rng_ok vx_F_ec_mid_2 s (by omega) (by omega)
  by_cases g3 : s < 48
  · exact vm_rng_ok vx_F_ec_mid_3 s (by omega) (by omega)
  by_cases g4 : s < 60
  · exact vm_rng_ok vx_F_ec_mid_4 s (by omega) (by omega)
  by_cases g5 : s < 72
  · exact vm_rng_ok vx_F_ec_mid_5 s (by omega) (by omega)
  by_cases g6 : s < 84
  · exact vm_rng_ok vx_F_ec_mid_6 s (by omega) (by omega)
  by_cases g7 : s < 96
  · exact vm_rng_ok vx_F_ec_mid_7 s (by omega) (by omega)
  by_cases g8 : s < 108
  · exact vm_rng_ok vx_F_ec_mid_8 s (by omega) (by omega)
  by_cases g9 : s < 120
  · exact vm_rng_ok vx_F_ec_mid_9 s (by omega) (by omega)
  by_cases g10 : s < 132
  · exact vm_rng_ok vx_F_ec_mid_10 s (by omega) (by omega)
  by_cases g11 : s < 144
  · exact vm_rng_ok vx_F_ec_mid_11 s (by omega) (by omega)
  by_cases g12 : s < 156
  · exact vm_rng_ok vx_F_ec_mid_12 s (by omega) (by omega)
  exact vm_rng_ok vx_F_ec_mid_13 s (by omega) (by omega)
theorem v_F_ec_mid (s : Nat) (h1 : 0 ≤ s) (h2 : s < 160) : vm_at 2 (q_F_ec_mid s) := by
  have h := vz_F_ec_mid s h1 h2
  rw [Bool.and_eq_true, Bool.and_eq_true] at h
  exact vm_ok (inl := []) (es := ve_F_ec_mid s) bq_12 (by decide) (vm_wts (L := 1) vm_kn h.2.2) h.2.1 (fun i => vm_hc h.1 rfl (fun h => absurd h (Nat.not_lt_zero _))) _ List.mem_cons_self
noncomputable def vp_5844 : List vm_R := [(some (.inl (.ofNat 160, .ofNat 160)), va_h0)]
noncomputable def ve_5844 : List vm_E := [([.inr (.inr (some 70)), .inl (.ofNat 0, .ofNat 160)], va_h368, 0, [0])]
noncomputable def q_5844 : vm_Q := (150, [.inr (.inr (some 70)), .inl (.ofNat 0, .ofNat 160)], va_h368, vp_5844)
noncomputable def vk_5844 : List vm_U := [((q_F_in_mid 160), true, [])]
noncomputable def vf_5844 : List ((Nat → am_I) → vm_A) := [fun v => (0, [(0, .inr (.inr (some 70))), (1, .inl (.ofNat 0, .ofNat 160))], [], (80, [(62, va_c256)]))]
noncomputable def vd_5844_0_0 : List (List Nat) := [[0]]
noncomputable def vd_5844_0 : List (List (List Nat)) := [vd_5844_0_0]
noncomputable def vd_5844 : List (List (List (List Nat))) := [vd_5844_0]
noncomputable def vt_5844 : List (List am_I) := []
noncomputable def vc_5844 : vm_C := (fun _ => vp_5844, fun pc => [], [], 1, vm_inst 8 1 vt_5844 vf_5844 vd_5844)
theorem vx_5844_0 : vm_chk bt_150 [] vk_5844 18 vc_5844 0 1 = true := by decide +kernel
theorem vy_5844 : vm_ents 150 18 vc_5844 ve_5844 = true := by decide +kernel
theorem vw_5844 : ∀ q ∈ vk_5844, vm_wt 2 q := vm_wts (vm_kc (vm_up (v_F_in_mid 160 (by decide) (by decide)) rfl) vm_kn) (by decide +kernel)
theorem v_5844 : vm_at 3 q_5844 := vm_ok (inl := []) (es := ve_5844) bq_150 (by decide) vw_5844 vy_5844 (fun i => vm_hc vx_5844_0 rfl (fun h => absurd h (Nat.not_lt_zero _))) _ List.mem_cons_self
noncomputable def vp_F_er_mid (s : Nat) : List vm_R := [(some (.inl (.ofNat (s + 0), .ofNat (s + 0))), (80, [(62, .inr (.inr (.inr (7, [.inr (.inr (some 71)), .inr (.inr (some 72)), .inl (.ofNat 2, .ofNat 5), .inl (.ofNat 2, .ofNat 5), .inl (.ofNat 0, .ofNat 5), .inr (.inr (some 73)), .inl (.ofNat 0, .ofNat 5), .inl (.ofNat 0, .ofNat 5), .inl (.ofNat 0, .ofNat 5), .inl am_top, .inl am_top, .inl am_top, .inr (.inr (some 74)), .inl (.ofNat 0, .ofNat (s + 0)), .inl (.ofNat 0, .ofNat 160), .inl (.ofNat 0, .ofNat 160), .inl (.ofNat 0, .ofNat 3), .inl am_top, .inl (.ofNat 0, .ofNat 6), .inl am_top, .inr (.inr (some 75)), .inr (.inr (some 76)), .inr (.inr (some 77)), .inr (.inr (some 78)), .inr (.inr (some 79)), .inr (.inr (some 80)), .inr (.inr (some 81)), .inl (.negSucc 0, .ofNat 6), .inr (.inr (some 82)), .inr (.inr (some 83)), .inr (.inr (some 84)), .inr (.inr (some 85)), .inr (.inr (some 86)), .inl am_top, .inr (.inr (some 87))]))))]))]
noncomputable def vk_F_er_mid (s : Nat) : List vm_U := [((q_F_in_mid (s + 0)), true, [])]
noncomputable def vf_F_er_mid (s : Nat) : List ((Nat → am_I) → vm_A) := [fun v => (0, [(0, .inr (.inr (some 70))), (1, .inl (.ofNat 0, .ofNat (s + 0)))], [], (80, [(62, .inr (.inr (.inr (7, [.inr (.inr (some 71)), .inr (.inr (some 72)), .inl (.ofNat 2, .ofNat 5), .inl (.ofNat 2, .ofNat 5), .inl (.ofNat 0, .ofNat 5), .inr (.inr (some 73)), .inl (.ofNat 0, .ofNat 5), .inl (.ofNat 0, .ofNat 5), .inl (.ofNat 0, .ofNat 5), .inl am_top, .inl am_top, .inl am_top, .inr (.inr (some 74)), .inl (.ofNat (s + 0), .ofNat (s + 0)), .inl (.ofNat 0, .ofNat 160), .inl (.ofNat 0, .ofNat 160), .inl (.ofNat 0, .ofNat 3), .inl am_top, .inl (.ofNat 0, .ofNat 6), .inl am_top, .inr (.inr (some 75)), .inr (.inr (some 76)), .inr (.inr (some 77)), .inr (.inr (some 78)), .inr (.inr (some 79)), .inr (.inr (some 80)), .inr (.inr (some 81)), .inl (.negSucc 0, .ofNat 6), .inr (.inr (some 82)), .inr (.inr (some 83)), .inr (.inr (some 84)), .inr (.inr (some 85)), .inr (.inr (some 86)), .inl am_top, .inr (.inr (some 87))]))))]))]
noncomputable def vd_F_er_mid_0_0 (s : Nat) : List (List Nat) := [[0]]
noncomputable def vd_F_er_mid_0 (s : Nat) : List (List (List Nat)) := [vd_F_er_mid_0_0 s]
noncomputable def vd_F_er_mid (s : Nat) : List (List (List (List Nat))) := [vd_F_er_mid_0 s]
noncomputable def vt_F_er_mid (s : Nat) : List (List am_I) := []
noncomputable def vc_F_er_mid (s : Nat) : vm_C := (fun _ => vp_F_er_mid s, fun pc => [], [], 1, vm_inst 8 1 (vt_F_er_mid s) (vf_F_er_mid s) (vd_F_er_mid s))
noncomputable def ve_F_er_mid (s : Nat) : List vm_E := [([.inr (.inr (some 70)), .inl (.ofNat 0, .ofNat (s + 0))], (80, [(62, .inr (.inr (.inr (7, [.inr (.inr (some 71)), .inr (.inr (some 72)), .inl (.ofNat 2, .ofNat 5), .inl (.ofNat 2, .ofNat 5), .inl (.ofNat 0, .ofNat 5), .inr (.inr (some 73)), .inl (.ofNat 0, .ofNat 5), .inl (.ofNat 0, .ofNat 5), .inl (.ofNat 0, .ofNat 5), .inl am_top, .inl am_top, .inl am_top, .inr (.inr (some 74)), .inl (.ofNat (s + 0), .ofNat (s + 0)), .inl (.ofNat 0, .ofNat 160), .inl (.ofNat 0, .ofNat 160), .inl (.ofNat 0, .ofNat 3), .inl am_top, .inl (.ofNat 0, .ofNat 6), .inl am_top, .inr (.inr (some 75)), .inr (.inr (some 76)), .inr (.inr (some 77)), .inr (.inr (some 78)), .inr (.inr (some 79)), .inr (.inr (some 80)), .inr (.inr (some 81)), .inl (.negSucc 0, .ofNat 6), .inr (.inr (some 82)), .inr (.inr (some 83)), .inr (.inr (some 84)), .inr (.inr (some 85)), .inr (.inr (some 86)), .inl am_top, .inr (.inr (some 87))]))))]), 0, [0])]
noncomputable def q_F_er_mid (s : Nat) : vm_Q := (150, [.inr (.inr (some 70)), .inl (.ofNat 0, .ofNat (s + 0))], (80, [(62, .inr (.inr (.inr (7, [.inr (.inr (some 71)), .inr (.inr (some 72)), .inl (.ofNat 2, .ofNat 5), .inl (.ofNat 2, .ofNat 5), .inl (.ofNat 0, .ofNat 5), .inr (.inr (some 73)), .inl (.ofNat 0, .ofNat 5), .inl (.ofNat 0, .ofNat 5), .inl (.ofNat 0, .ofNat 5), .inl am_top, .inl am_top, .inl am_top, .inr (.inr (some 74)), .inl (.ofNat (s + 0), .ofNat (s + 0)), .inl (.ofNat 0, .ofNat 160), .inl (.ofNat 0, .ofNat 160), .inl (.ofNat 0, .ofNat 3), .inl am_top, .inl (.ofNat 0, .ofNat 6), .inl am_top, .inr (.inr (some 75)), .inr (.inr (some 76)), .inr (.inr (some 77)), .inr (.inr (some 78)), .inr (.inr (some 79)), .inr (.inr (some 80)), .inr (.inr (some 81)), .inl (.negSucc 0, .ofNat 6), .inr (.inr (some 82)), .inr (.inr (some 83)), .inr (.inr (some 84)), .inr (.inr (some 85)), .inr (.inr (some 86)), .inl am_top, .inr (.inr (some 87))]))))]), vp_F_er_mid s)
theorem vx_F_er_mid_0 : vm_rng (fun s => vm_chk bt_150 [] (vk_F_er_mid s) 18 (vc_F_er_mid s) 0 1 && (vm_ents 150 18 (vc_F_er_mid s) (ve_F_er_mid s) && vm_kok (vk_F_er_mid s))) 0 11 = true := by decide +kernel
theorem vx_F_er_mid_1 : vm_rng (fun s => vm_chk bt_150 [] (vk_F_er_mid s) 18 (vc_F_er_mid s) 0 1 && (vm_ents 150 18 (vc_F_er_mid s) (ve_F_er_mid s) && vm_kok (vk_F_er_mid s))) 11 11 = true := by decide +kernel
theorem vx_F_er_mid_2 : vm_rng (fun s => vm_chk bt_150 [] (vk_F_er_mid s) 18 (vc_F_er_mid s) 0 1 && (vm_ents 150 18 (vc_F_er_mid s) (ve_F_er_mid s) && vm_kok (vk_F_er_mid s))) 22 11 = true := by decide +kernel
theorem vx_F_er_mid_3 : vm_rng (fun s => vm_chk bt_150 [] (vk_F_er_mid s) 18 (vc_F_er_mid s) 0 1 && (vm_ents 150 18 (vc_F_er_mid s) (ve_F_er_mid s) && vm_kok (vk_F_er_mid s))) 33 11 = true := by decide +kernel
theorem vx_F_er_mid_4 : vm_rng (fun s => vm_chk bt_150 [] (vk_F_er_mid s) 18 (vc_F_er_mid s) 0 1 && (vm_ents 150 18 (vc_F_er_mid s) (ve_F_er_mid s) && vm_kok (vk_F_er_mid s))) 44 11 = true := by decide +kernel
theorem vx_F_er_mid_5 : vm_rng (fun s => vm_chk bt_150 [] (vk_F_er_mid s) 18 (vc_F_er_mid s) 0 1 && (vm_ents 150 18 (vc_F_er_mid s) (ve_F_er_mid s) && vm_kok (vk_F_er_mid s))) 55 11 = true := by decide +kernel
theorem vx_F_er_mid_6 : vm_rng (fun s => vm_chk bt_150 [] (vk_F_er_mid s) 18 (vc_F_er_mid s) 0 1 && (vm_ents 150 18 (vc_F_er_mid s) (ve_F_er_mid s) && vm_kok (vk_F_er_mid s))) 66 11 = true := by decide +kernel
theorem vx_F_er_mid_7 : vm_rng (fun s => vm_chk bt_150 [] (vk_F_er_mid s) 18 (vc_F_er_mid s) 0 1 && (vm_ents 150 18 (vc_F_er_mid s) (ve_F_er_mid s) && vm_kok (vk_F_er_mid s))) 77 11 = true := by decide +kernel
theorem vx_F_er_mid_8 : vm_rng (fun s => vm_chk bt_150 [] (vk_F_er_mid s) 18 (vc_F_er_mid s) 0 1 && (vm_ents 150 18 (vc_F_er_mid s) (ve_F_er_mid s) && vm_kok (vk_F_er_mid s))) 88 11 = true := by decide +kernel
theorem vx_F_er_mid_9 : vm_rng (fun s => vm_chk bt_150 [] (vk_F_er_mid s) 18 (vc_F_er_mid s) 0 1 && (vm_ents 150 18 (vc_F_er_mid s) (ve_F_er_mid s) && vm_kok (vk_F_er_mid s))) 99 11 = true := by decide +kernel
theorem vx_F_er_mid_10 : vm_rng (fun s => vm_chk bt_150 [] (vk_F_er_mid s) 18 (vc_F_er_mid s) 0 1 && (vm_ents 150 18 (vc_F_er_mid s) (ve_F_er_mid s) && vm_kok (vk_F_er_mid s))) 110 11 = true := by decide +kernel
theorem vx_F_er_mid_11 : vm_rng (fun s => vm_chk bt_150 [] (vk_F_er_mid s) 18 (vc_F_er_mid s) 0 1 && (vm_ents 150 18 (vc_F_er_mid s) (ve_F_er_mid s) && vm_kok (vk_F_er_mid s))) 121 11 = true := by decide +kernel
theorem vx_F_er_mid_12 : vm_rng (fun s => vm_chk bt_150 [] (vk_F_er_mid s) 18 (vc_F_er_mid s) 0 1 && (vm_ents 150 18 (vc_F_er_mid s) (ve_F_er_mid s) && vm_kok (vk_F_er_mid s))) 132 11 = true := by decide +kernel
theorem vx_F_er_mid_13 : vm_rng (fun s => vm_chk bt_150 [] (vk_F_er_mid s) 18 (vc_F_er_mid s) 0 1 && (vm_ents 150 18 (vc_F_er_mid s) (ve_F_er_mid s) && vm_kok (vk_F_er_mid s))) 143 11 = true := by decide +kernel
theorem vx_F_er_mid_14 : vm_rng (fun s => vm_chk bt_150 [] (vk_F_er_mid s) 18 (vc_F_er_mid s) 0 1 && (vm_ents 150 18 (vc_F_er_mid s) (ve_F_er_mid s) && vm_kok (vk_F_er_mid s))) 154 6 = true := by decide +kernel
set_option maxRecDepth 20000 in
theorem vz_F_er_mid (s : Nat) (h1 : 0 ≤ s) (h2 : s < 160) : (vm_chk bt_150 [] (vk_F_er_mid s) 18 (vc_F_er_mid s) 0 1 && (vm_ents 150 18 (vc_F_er_mid s) (ve_F_er_mid s) && vm_kok (vk_F_er_mid s))) = true := by
  by_cases g0 : s < 11
  · exact vm_rng_ok vx_F_er_mid_0 s (by omega) (by omega)
  by_cases g1 : s < 22
  · exact vm_rng_ok vx_F_er_mid_1 s (by omega) (by omega)
  by_cases g2 : s < 33
  · exact vm_rng_ok vx_F_er_mid_2 s (by omega) (by omega)
  by_cases g3 : s < 44
  · exact vm_rng_ok vx_F_er_mid_3 s (by omega) (by omega)
  by_cases g4 : s < 55
  · exact vm_rng_ok vx_F_er_mid_4 s (by omega) (by omega)
  by_cases g5 : s < 66
  · exact vm_rng_ok vx_F_er_mid_5 s (by omega) (by omega)
  by_cases g6 : s < 77
  · exact vm_rng_ok vx_F_er_mid_6 s (by omega) (by omega)
  by_cases g7 : s < 88
  · exact vm_rng_ok vx_F_er_mid_7 s (by omega) (by omega)
  by_cases g8 : s < 99
  · exact vm_rng_ok vx_F_er_mid_8 s (by omega) (by omega)
  by_cases g9 : s < 110
  · exact vm_rng_ok vx_F_er_mid_9 s (by omega) (by omega)
  by_cases g10 : s < 121
  · exact vm_rng_ok vx_F_er_mid_10 s (by omega) (by omega)
  by_cases g11 : s < 132
  · exact vm_rng_ok vx_F_er_mid_11 s (by omega) (by omega)
  by_cases g12 : s < 143
  · exact vm_rng_ok vx_F_er_mid_12 s (by omega) (by omega)
  by_cases g13 : s < 154
  · exact vm_rng_ok vx_F_er_mid_13 s (by omega) (by omega)
  exact vm_rng_ok vx_F_er_mid_14 s (by omega) (by omega)
theorem v_F_er_mid (s : Nat) (h1 : 0 ≤ s) (h2 : s < 160) : vm_at 3 (q_F_er_mid s) := by
  have h := vz_F_er_mid s h1 h2
  rw [Bool.and_eq_true, Bool.and_eq_true] at h
  exact vm_ok (inl := []) (es := ve_F_er_mid s) bq_150 (by decide) (vm_wts (L := 2) (vm_kc (vm_up (v_F_in_mid (s + 0) (by omega) (by omega)) rfl) vm_kn) h.2.2) h.2.1 (fun i => vm_hc h.1 rfl (fun h => absurd h (Nat.not_lt_zero _))) _ List.mem_cons_self
noncomputable def vp_F_ec_hi (s : Nat) : List vm_R := [(some (.inl (.negSucc 0, .negSucc 0)), (80, [(1, .inr (.inr (.inr (2, [.inr (.inr (some 10)), .inl (.ofNat (s + 0), .ofNat (s + 0)), .inl (.ofNat 0, .ofNat 4), .inl (.ofNat 0, .ofNat 160), .inl am_top, .inl (.ofNat 0, .ofNat 160)]))))]))]
noncomputable def vk_F_ec_hi (s : Nat) : List vm_U := []
noncomputable def vf_F_ec_hi (s : Nat) : List ((Nat → am_I) → vm_A) := [fun v => (0, [(0, .inr (.inr (some 8))), (1, .inl (.ofNat (s + 1), .ofNat 2147483647))], [], (80, [(1, .inr (.inr (.inr (2, [.inr (.inr (some 10)), .inl (.ofNat (s + 0), .ofNat (s + 0)), .inl (.ofNat 0, .ofNat 4), .inl (.ofNat 0, .ofNat 160), .inl am_top, .inl (.ofNat 0, .ofNat 160)]))))]))]
noncomputable def vd_F_ec_hi_0_0 (s : Nat) : List (List Nat) := [[0]]
noncomputable def vd_F_ec_hi_0 (s : Nat) : List (List (List Nat)) := [vd_F_ec_hi_0_0 s]
noncomputable def vd_F_ec_hi (s : Nat) : List (List (List (List Nat))) := [vd_F_ec_hi_0 s]
noncomputable def vt_F_ec_hi (s : Nat) : List (List am_I) := []
noncomputable def vc_F_ec_hi (s : Nat) : vm_C := (fun _ => vp_F_ec_hi s, fun pc => [], [], 1, vm_inst 8 1 (vt_F_ec_hi s) (vf_F_ec_hi s) (vd_F_ec_hi s))
noncomputable def ve_F_ec_hi (s : Nat) : List vm_E := [([.inr (.inr (some 8)), .inl (.ofNat (s + 1), .ofNat 2147483647)], (80, [(1, .inr (.inr (.inr (2, [.inr (.inr (some 10)), .inl (.ofNat (s + 0), .ofNat (s + 0)), .inl (.ofNat 0, .ofNat 4), .inl (.ofNat 0, .ofNat 160), .inl am_top, .inl (.ofNat 0, .ofNat 160)]))))]), 0, [0])]
noncomputable def q_F_ec_hi (s : Nat) : vm_Q := (12, [.inr (.inr (some 8)), .inl (.ofNat (s + 1), .ofNat 2147483647)], (80, [(1, .inr (.inr (.inr (2, [.inr (.inr (some 10)), .inl (.ofNat (s + 0), .ofNat (s + 0)), .inl (.ofNat 0, .ofNat 4), .inl (.ofNat 0, .ofNat 160), .inl am_top, .inl (.ofNat 0, .ofNat 160)]))))]), vp_F_ec_hi s)
theorem vx_F_ec_hi_0 : vm_rng (fun s => vm_chk bt_12 [] (vk_F_ec_hi s) 13 (vc_F_ec_hi s) 0 1 && (vm_ents 12 13 (vc_F_ec_hi s) (ve_F_ec_hi s) && vm_kok (vk_F_ec_hi s))) 0 14 = true := by decide +kernel
theorem vx_F_ec_hi_1 : vm_rng (fun s => vm_chk bt_12 [] (vk_F_ec_hi s) 13 (vc_F_ec_hi s) 0 1 && (vm_ents 12 13 (vc_F_ec_hi s) (ve_F_ec_hi s) && vm_kok (vk_F_ec_hi s))) 14 14 = true := by decide +kernel
theorem vx_F_ec_hi_2 : vm_rng (fun s => vm_chk bt_12 [] (vk_F_ec_hi s) 13 (vc_F_ec_hi s) 0 1 && (vm_ents 12 13 (vc_F_ec_hi s) (ve_F_ec_hi s) && vm_kok (vk_F_ec_hi s))) 28 14 = true := by decide +kernel
theorem vx_F_ec_hi_3 : vm_rng (fun s => vm_chk bt_12 [] (vk_F_ec_hi s) 13 (vc_F_ec_hi s) 0 1 && (vm_ents 12 13 (vc_F_ec_hi s) (ve_F_ec_hi s) && vm_kok (vk_F_ec_hi s))) 42 14 = true := by decide +kernel
theorem vx_F_ec_hi_4 : vm_rng (fun s => vm_chk bt_12 [] (vk_F_ec_hi s) 13 (vc_F_ec_hi s) 0 1 && (vm_ents 12 13 (vc_F_ec_hi s) (ve_F_ec_hi s) && vm_kok (vk_F_ec_hi s))) 56 14 = true := by decide +kernel
theorem vx_F_ec_hi_5 : vm_rng (fun s => vm_chk bt_12 [] (vk_F_ec_hi s) 13 (vc_F_ec_hi s) 0 1 && (vm_ents 12 13 (vc_F_ec_hi s) (ve_F_ec_hi s) && vm_kok (vk_F_ec_hi s))) 70 14 = true := by decide +kernel
theorem vx_F_ec_hi_6 : vm_rng (fun s => vm_chk bt_12 [] (vk_F_ec_hi s) 13 (vc_F_ec_hi s) 0 1 && (vm_ents 12 13 (vc_F_ec_hi s) (ve_F_ec_hi s) && vm_kok (vk_F_ec_hi s))) 84 14 = true := by decide +kernel
theorem vx_F_ec_hi_7 : vm_rng (fun s => vm_chk bt_12 [] (vk_F_ec_hi s) 13 (vc_F_ec_hi s) 0 1 && (vm_ents 12 13 (vc_F_ec_hi s) (ve_F_ec_hi s) && vm_kok (vk_F_ec_hi s))) 98 14 = true := by decide +kernel
theorem vx_F_ec_hi_8 : vm_rng (fun s => vm_chk bt_12 [] (vk_F_ec_hi s) 13 (vc_F_ec_hi s) 0 1 && (vm_ents 12 13 (vc_F_ec_hi s) (ve_F_ec_hi s) && vm_kok (vk_F_ec_hi s))) 112 14 = true := by decide +kernel
theorem vx_F_ec_hi_9 : vm_rng (fun s => vm_chk bt_12 [] (vk_F_ec_hi s) 13 (vc_F_ec_hi s) 0 1 && (vm_ents 12 13 (vc_F_ec_hi s) (ve_F_ec_hi s) && vm_kok (vk_F_ec_hi s))) 126 14 = true := by decide +kernel
theorem vx_F_ec_hi_10 : vm_rng (fun s => vm_chk bt_12 [] (vk_F_ec_hi s) 13 (vc_F_ec_hi s) 0 1 && (vm_ents 12 13 (vc_F_ec_hi s) (ve_F_ec_hi s) && vm_kok (vk_F_ec_hi s))) 140 14 = true := by decide +kernel
theorem vx_F_ec_hi_11 : vm_rng (fun s => vm_chk bt_12 [] (vk_F_ec_hi s) 13 (vc_F_ec_hi s) 0 1 && (vm_ents 12 13 (vc_F_ec_hi s) (ve_F_ec_hi s) && vm_kok (vk_F_ec_hi s))) 154 7 = true := by decide +kernel
set_option maxRecDepth 20000 in
theorem vz_F_ec_hi (s : Nat) (h1 : 0 ≤ s) (h2 : s < 161) : (vm_chk bt_12 [] (vk_F_ec_hi s) 13 (vc_F_ec_hi s) 0 1 && (vm_ents 12 13 (vc_F_ec_hi s) (ve_F_ec_hi s) && vm_kok (vk_F_ec_hi s))) = true := by
  by_cases g0 : s < 14
  · exact vm_rng_ok vx_F_ec_hi_0 s (by omega) (by omega)
  by_cases g1 : s < 28
  · exact vm_rng_ok vx_F_ec_hi_1 s (by omega) (by omega)
  by_cases g2 : s < 42
  · exact vm_rng_ok vx_F_ec_hi_2 s (by omega) (by omega)
  by_cases g3 : s < 56
  · exact vm_rng_ok vx_F_ec_hi_3 s (by omega) (by omega)
  by_cases g4 : s < 70
  · exact vm_rng_ok vx_F_ec_hi_4 s (by omega) (by omega)
  by_cases g5 : s < 84
  · exact vm_rng_ok vx_F_ec_hi_5 s (by omega) (by omega)
  by_cases g6 : s < 98
  · exact vm_rng_ok vx_F_ec_hi_6 s (by omega) (by omega)
  by_cases g7 : s < 112
  · exact vm_rng_ok vx_F_ec_hi_7 s (by omega) (by omega)
  by_cases g8 : s < 126
  · exact vm_rng_ok vx_F_ec_hi_8 s (by omega) (by omega)
  by_cases g9 : s < 140
  · exact vm_rng_ok vx_F_ec_hi_9 s (by omega) (by omega)
  by_cases g10 : s < 154
  · exact vm_rng_ok vx_F_ec_hi_10 s (by omega) (by omega)
  exact vm_rng_ok vx_F_ec_hi_11 s (by omega) (by omega)
theorem v_F_ec_hi (s : Nat) (h1 : 0 ≤ s) (h2 : s < 161) : vm_at 2 (q_F_ec_hi s) := by
  have h := vz_F_ec_hi s h1 h2
  rw [Bool.and_eq_true, Bool.and_eq_true] at h
  exact vm_ok (inl := []) (es := ve_F_ec_hi s) bq_12 (by decide) (vm_wts (L := 1) vm_kn h.2.2) h.2.1 (fun i => vm_hc h.1 rfl (fun h => absurd h (Nat.not_lt_zero _))) _ List.mem_cons_self
noncomputable def vp_F_er_hi (s : Nat) : List vm_R := [(some (.inl (.negSucc 0, .negSucc 0)), (80, [(62, .inr (.inr (.inr (7, [.inr (.inr (some 71)), .inr (.inr (some 72)), .inl (.ofNat 2, .ofNat 5), .inl (.ofNat 2, .ofNat 5), .inl (.ofNat 0, .ofNat 5), .inr (.inr (some 73)), .inl (.ofNat 0, .ofNat 5), .inl (.ofNat 0, .ofNat 5), .inl (.ofNat 0, .ofNat 5), .inl am_top, .inl am_top, .inl am_top, .inr (.inr (some 74)), .inl (.ofNat (s + 0), .ofNat (s + 0)), .inl (.ofNat 0, .ofNat 160), .inl (.ofNat 0, .ofNat 160), .inl (.ofNat 0, .ofNat 3), .inl am_top, .inl (.ofNat 0, .ofNat 6), .inl am_top, .inr (.inr (some 75)), .inr (.inr (some 76)), .inr (.inr (some 77)), .inr (.inr (some 78)), .inr (.inr (some 79)), .inr (.inr (some 80)), .inr (.inr (some 81)), .inl (.negSucc 0, .ofNat 6), .inr (.inr (some 82)), .inr (.inr (some 83)), .inr (.inr (some 84)), .inr (.inr (some 85)), .inr (.inr (some 86)), .inl am_top, .inr (.inr (some 87))]))))]))]
noncomputable def vk_F_er_hi (s : Nat) : List vm_U := [((q_F_in_hi (s + 0)), true, [])]
noncomputable def vf_F_er_hi (s : Nat) : List ((Nat → am_I) → vm_A) := [fun v => (0, [(0, .inr (.inr (some 70))), (1, .inl (.ofNat (s + 1), .ofNat 2147483647))], [], (80, [(62, .inr (.inr (.inr (7, [.inr (.inr (some 71)), .inr (.inr (some 72)), .inl (.ofNat 2, .ofNat 5), .inl (.ofNat 2, .ofNat 5), .inl (.ofNat 0, .ofNat 5), .inr (.inr (some 73)), .inl (.ofNat 0, .ofNat 5), .inl (.ofNat 0, .ofNat 5), .inl (.ofNat 0, .ofNat 5), .inl am_top, .inl am_top, .inl am_top, .inr (.inr (some 74)), .inl (.ofNat (s + 0), .ofNat (s + 0)), .inl (.ofNat 0, .ofNat 160), .inl (.ofNat 0, .ofNat 160), .inl (.ofNat 0, .ofNat 3), .inl am_top, .inl (.ofNat 0, .ofNat 6), .inl am_top, .inr (.inr (some 75)), .inr (.inr (some 76)), .inr (.inr (some 77)), .inr (.inr (some 78)), .inr (.inr (some 79)), .inr (.inr (some 80)), .inr (.inr (some 81)), .inl (.negSucc 0, .ofNat 6), .inr (.inr (some 82)), .inr (.inr (some 83)), .inr (.inr (some 84)), .inr (.inr (some 85)), .inr (.inr (some 86)), .inl am_top, .inr (.inr (some 87))]))))]))]
noncomputable def vd_F_er_hi_0_0 (s : Nat) : List (List Nat) := [[0]]
noncomputable def vd_F_er_hi_0 (s : Nat) : List (List (List Nat)) := [vd_F_er_hi_0_0 s]
noncomputable def vd_F_er_hi (s : Nat) : List (List (List (List Nat))) := [vd_F_er_hi_0 s]
noncomputable def vt_F_er_hi (s : Nat) : List (List am_I) := []
noncomputable def vc_F_er_hi (s : Nat) : vm_C := (fun _ => vp_F_er_hi s, fun pc => [], [], 1, vm_inst 8 1 (vt_F_er_hi s) (vf_F_er_hi s) (vd_F_er_hi s))
noncomputable def ve_F_er_hi (s : Nat) : List vm_E := [([.inr (.inr (some 70)), .inl (.ofNat (s + 1), .ofNat 2147483647)], (80, [(62, .inr (.inr (.inr (7, [.inr (.inr (some 71)), .inr (.inr (some 72)), .inl (.ofNat 2, .ofNat 5), .inl (.ofNat 2, .ofNat 5), .inl (.ofNat 0, .ofNat 5), .inr (.inr (some 73)), .inl (.ofNat 0, .ofNat 5), .inl (.ofNat 0, .ofNat 5), .inl (.ofNat 0, .ofNat 5), .inl am_top, .inl am_top, .inl am_top, .inr (.inr (some 74)), .inl (.ofNat (s + 0), .ofNat (s + 0)), .inl (.ofNat 0, .ofNat 160), .inl (.ofNat 0, .ofNat 160), .inl (.ofNat 0, .ofNat 3), .inl am_top, .inl (.ofNat 0, .ofNat 6), .inl am_top, .inr (.inr (some 75)), .inr (.inr (some 76)), .inr (.inr (some 77)), .inr (.inr (some 78)), .inr (.inr (some 79)), .inr (.inr (some 80)), .inr (.inr (some 81)), .inl (.negSucc 0, .ofNat 6), .inr (.inr (some 82)), .inr (.inr (some 83)), .inr (.inr (some 84)), .inr (.inr (some 85)), .inr (.inr (some 86)), .inl am_top, .inr (.inr (some 87))]))))]), 0, [0])]
noncomputable def q_F_er_hi (s : Nat) : vm_Q := (150, [.inr (.inr (some 70)), .inl (.ofNat (s + 1), .ofNat 2147483647)], (80, [(62, .inr (.inr (.inr (7, [.inr (.inr (some 71)), .inr (.inr (some 72)), .inl (.ofNat 2, .ofNat 5), .inl (.ofNat 2, .ofNat 5), .inl (.ofNat 0, .ofNat 5), .inr (.inr (some 73)), .inl (.ofNat 0, .ofNat 5), .inl (.ofNat 0, .ofNat 5), .inl (.ofNat 0, .ofNat 5), .inl am_top, .inl am_top, .inl am_top, .inr (.inr (some 74)), .inl (.ofNat (s + 0), .ofNat (s + 0)), .inl (.ofNat 0, .ofNat 160), .inl (.ofNat 0, .ofNat 160), .inl (.ofNat 0, .ofNat 3), .inl am_top, .inl (.ofNat 0, .ofNat 6), .inl am_top, .inr (.inr (some 75)), .inr (.inr (some 76)), .inr (.inr (some 77)), .inr (.inr (some 78)), .inr (.inr (some 79)), .inr (.inr (some 80)), .inr (.inr (some 81)), .inl (.negSucc 0, .ofNat 6), .inr (.inr (some 82)), .inr (.inr (some 83)), .inr (.inr (some 84)), .inr (.inr (some 85)), .inr (.inr (some 86)), .inl am_top, .inr (.inr (some 87))]))))]), vp_F_er_hi s)
theorem vx_F_er_hi_0 : vm_rng (fun s => vm_chk bt_150 [] (vk_F_er_hi s) 12 (vc_F_er_hi s) 0 1 && (vm_ents 150 12 (vc_F_er_hi s) (ve_F_er_hi s) && vm_kok (vk_F_er_hi s))) 0 15 = true := by decide +kernel
theorem vx_F_er_hi_1 : vm_rng (fun s => vm_chk bt_150 [] (vk_F_er_hi s) 12 (vc_F_er_hi s) 0 1 && (vm_ents 150 12 (vc_F_er_hi s) (ve_F_er_hi s) && vm_kok (vk_F_er_hi s))) 15 15 = true := by decide +kernel
theorem vx_F_er_hi_2 : vm_rng (fun s => vm_chk bt_150 [] (vk_F_er_hi s) 12 (vc_F_er_hi s) 0 1 && (vm_ents 150 12 (vc_F_er_hi s) (ve_F_er_hi s) && vm_kok (vk_F_er_hi s))) 30 15 = true := by decide +kernel
theorem vx_F_er_hi_3 : vm_rng (fun s => vm_chk bt_150 [] (vk_F_er_hi s) 12 (vc_F_er_hi s) 0 1 && (vm_ents 150 12 (vc_F_er_hi s) (ve_F_er_hi s) && vm_kok (vk_F_er_hi s))) 45 15 = true := by decide +kernel
theorem vx_F_er_hi_4 : vm_rng (fun s => vm_chk bt_150 [] (vk_F_er_hi s) 12 (vc_F_er_hi s) 0 1 && (vm_ents 150 12 (vc_F_er_hi s) (ve_F_er_hi s) && vm_kok (vk_F_er_hi s))) 60 15 = true := by decide +kernel
theorem vx_F_er_hi_5 : vm_rng (fun s => vm_chk bt_150 [] (vk_F_er_hi s) 12 (vc_F_er_hi s) 0 1 && (vm_ents 150 12 (vc_F_er_hi s) (ve_F_er_hi s) && vm_kok (vk_F_er_hi s))) 75 15 = true := by decide +kernel
theorem vx_F_er_hi_6 : vm_rng (fun s => vm_chk bt_150 [] (vk_F_er_hi s) 12 (vc_F_er_hi s) 0 1 && (vm_ents 150 12 (vc_F_er_hi s) (ve_F_er_hi s) && vm_kok (vk_F_er_hi s))) 90 15 = true := by decide +kernel
theorem vx_F_er_hi_7 : vm_rng (fun s => vm_chk bt_150 [] (vk_F_er_hi s) 12 (vc_F_er_hi s) 0 1 && (vm_ents 150 12 (vc_F_er_hi s) (ve_F_er_hi s) && vm_kok (vk_F_er_hi s))) 105 15 = true := by decide +kernel
theorem vx_F_er_hi_8 : vm_rng (fun s => vm_chk bt_150 [] (vk_F_er_hi s) 12 (vc_F_er_hi s) 0 1 && (vm_ents 150 12 (vc_F_er_hi s) (ve_F_er_hi s) && vm_kok (vk_F_er_hi s))) 120 15 = true := by decide +kernel
theorem vx_F_er_hi_9 : vm_rng (fun s => vm_chk bt_150 [] (vk_F_er_hi s) 12 (vc_F_er_hi s) 0 1 && (vm_ents 150 12 (vc_F_er_hi s) (ve_F_er_hi s) && vm_kok (vk_F_er_hi s))) 135 15 = true := by decide +kernel
theorem vx_F_er_hi_10 : vm_rng (fun s => vm_chk bt_150 [] (vk_F_er_hi s) 12 (vc_F_er_hi s) 0 1 && (vm_ents 150 12 (vc_F_er_hi s) (ve_F_er_hi s) && vm_kok (vk_F_er_hi s))) 150 11 = true := by decide +kernel
set_option maxRecDepth 20000 in
theorem vz_F_er_hi (s : Nat) (h1 : 0 ≤ s) (h2 : s < 161) : (vm_chk bt_150 [] (vk_F_er_hi s) 12 (vc_F_er_hi s) 0 1 && (vm_ents 150 12 (vc_F_er_hi s) (ve_F_er_hi s) && vm_kok (vk_F_er_hi s))) = true := by
  by_cases g0 : s < 15
  · exact vm_rng_ok vx_F_er_hi_0 s (by omega) (by omega)
  by_cases g1 : s < 30
  · exact vm_rng_ok vx_F_er_hi_1 s (by omega) (by omega)
  by_cases g2 : s < 45
  · exact vm_rng_ok vx_F_er_hi_2 s (by omega) (by omega)
  by_cases g3 : s < 60
  · exact vm_rng_ok vx_F_er_hi_3 s (by omega) (by omega)
  by_cases g4 : s < 75
  · exact vm_rng_ok vx_F_er_hi_4 s (by omega) (by omega)
  by_cases g5 : s < 90
  · exact vm_rng_ok vx_F_er_hi_5 s (by omega) (by omega)
  by_cases g6 : s < 105
  · exact vm_rng_ok vx_F_er_hi_6 s (by omega) (by omega)
  by_cases g7 : s < 120
  · exact vm_rng_ok vx_F_er_hi_7 s (by omega) (by omega)
  by_cases g8 : s < 135
  · exact vm_rng_ok vx_F_er_hi_8 s (by omega) (by omega)
  by_cases g9 : s < 150
  · exact vm_rng_ok vx_F_er_hi_9 s (by omega) (by omega)
  exact vm_rng_ok vx_F_er_hi_10 s (by omega) (by omega)
theorem v_F_er_hi (s : Nat) (h1 : 0 ≤ s) (h2 : s < 161) : vm_at 3 (q_F_er_hi s) := by
  have h := vz_F_er_hi s h1 h2
  rw [Bool.and_eq_true, Bool.and_eq_true] at h
  exact vm_ok (inl := []) (es := ve_F_er_hi s) bq_150 (by decide) (vm_wts (L := 2) (vm_kc (vm_up (v_F_in_hi (s + 0) (by omega) (by omega)) rfl) vm_kn) h.2.2) h.2.1 (fun i => vm_hc h.1 rfl (fun h => absurd h (Nat.not_lt_zero _))) _ List.mem_cons_self
noncomputable def va_c257 : am_C := .inr (.inr (.inr (2, [.inr (.inr (some 10)), .inl (.ofNat 0, .ofNat 0), .inl (.ofNat 0, .ofNat 4), .inl (.ofNat 0, .ofNat 160), .inl am_top, .inl (.ofNat 0, .ofNat 160)])))
noncomputable def va_h369 : am_H := (80, [(1, va_c257)])
noncomputable def vp_6487 : List vm_R := [(some (.inl (.ofNat 0, .ofNat 160)), va_h369)]
noncomputable def ve_6487 : List vm_E := [([.inr (.inr (some 8)), .inl (.ofNat 0, .ofNat 0)], va_h0, 0, [0])]
noncomputable def q_6487 : vm_Q := (12, [.inr (.inr (some 8)), .inl (.ofNat 0, .ofNat 0)], va_h0, vp_6487)
noncomputable def vk_6487 : List vm_U := []
noncomputable def vf_6487 : List ((Nat → am_I) → vm_A) := [fun v => (0, [(0, .inr (.inr (some 8))), (1, .inl (.ofNat 0, .ofNat 0))], [], (80, []))]
noncomputable def vd_6487_0_0 : List (List Nat) := [[0]]
noncomputable def vd_6487_0 : List (List (List Nat)) := [vd_6487_0_0]
noncomputable def vd_6487 : List (List (List (List Nat))) := [vd_6487_0]
noncomputable def vt_6487 : List (List am_I) := []
noncomputable def vc_6487 : vm_C := (fun _ => vp_6487, fun pc => [], [], 1, vm_inst 8 1 vt_6487 vf_6487 vd_6487)
theorem vx_6487_0 : vm_chk bt_12 [] vk_6487 17 vc_6487 0 1 = true := by decide +kernel
theorem vy_6487 : vm_ents 12 17 vc_6487 ve_6487 = true := by decide +kernel
theorem vw_6487 : ∀ q ∈ vk_6487, vm_wt 1 q := vm_wts vm_kn (by decide +kernel)
theorem v_6487 : vm_at 2 q_6487 := vm_ok (inl := []) (es := ve_6487) bq_12 (by decide) vw_6487 vy_6487 (fun i => vm_hc vx_6487_0 rfl (fun h => absurd h (Nat.not_lt_zero _))) _ List.mem_cons_self
noncomputable def vp_F_nc (s : Nat) : List vm_R := [(some (.inl (.ofNat (s + 0), .ofNat 160)), (80, [(1, .inr (.inr (.inr (2, [.inr (.inr (some 10)), .inl (.ofNat (s + 0), .ofNat (s + 0)), .inl (.ofNat 0, .ofNat 4), .inl (.ofNat 0, .ofNat 160), .inl am_top, .inl (.ofNat 0, .ofNat 160)]))))]))]
noncomputable def vk_F_nc (s : Nat) : List vm_U := []
noncomputable def vf_F_nc (s : Nat) : List ((Nat → am_I) → vm_A) := [fun v => (0, [(0, .inr (.inr (some 8))), (1, .inl (.ofNat (s + 0), .ofNat (s + 0)))], [], (80, [(1, .inr (.inr (.inr (2, [.inr (.inr (some 10)), .inl (.ofNat (s + 0), .ofNat 160), .inl (.ofNat 0, .ofNat 4), .inl (.ofNat 0, .ofNat 160), .inl am_top, .inl (.ofNat 0, .ofNat 160)]))))]))]
noncomputable def vd_F_nc_0_0 (s : Nat) : List (List Nat) := [[0]]
noncomputable def vd_F_nc_0 (s : Nat) : List (List (List Nat)) := [vd_F_nc_0_0 s]
noncomputable def vd_F_nc (s : Nat) : List (List (List (List Nat))) := [vd_F_nc_0 s]
noncomputable def vt_F_nc (s : Nat) : List (List am_I) := []
noncomputable def vc_F_nc (s : Nat) : vm_C := (fun _ => vp_F_nc s, fun pc => [], [], 1, vm_inst 8 1 (vt_F_nc s) (vf_F_nc s) (vd_F_nc s))
noncomputable def ve_F_nc (s : Nat) : List vm_E := [([.inr (.inr (some 8)), .inl (.ofNat (s + 0), .ofNat (s + 0))], (80, [(1, .inr (.inr (.inr (2, [.inr (.inr (some 10)), .inl (.ofNat (s + 0), .ofNat 160), .inl (.ofNat 0, .ofNat 4), .inl (.ofNat 0, .ofNat 160), .inl am_top, .inl (.ofNat 0, .ofNat 160)]))))]), 0, [0])]
noncomputable def q_F_nc (s : Nat) : vm_Q := (12, [.inr (.inr (some 8)), .inl (.ofNat (s + 0), .ofNat (s + 0))], (80, [(1, .inr (.inr (.inr (2, [.inr (.inr (some 10)), .inl (.ofNat (s + 0), .ofNat 160), .inl (.ofNat 0, .ofNat 4), .inl (.ofNat 0, .ofNat 160), .inl am_top, .inl (.ofNat 0, .ofNat 160)]))))]), vp_F_nc s)
theorem vx_F_nc_0 : vm_rng (fun s => vm_chk bt_12 [] (vk_F_nc s) 17 (vc_F_nc s) 0 1 && (vm_ents 12 17 (vc_F_nc s) (ve_F_nc s) && vm_kok (vk_F_nc s))) 1 12 = true := by decide +kernel
theorem vx_F_nc_1 : vm_rng (fun s => vm_chk bt_12 [] (vk_F_nc s) 17 (vc_F_nc s) 0 1 && (vm_ents 12 17 (vc_F_nc s) (ve_F_nc s) && vm_kok (vk_F_nc s))) 13 12 = true := by decide +kernel
theorem vx_F_nc_2 : vm_rng (fun s => vm_chk bt_12 [] (vk_F_nc s) 17 (vc_F_nc s) 0 1 && (vm_ents 12 17 (vc_F_nc s) (ve_F_nc s) && vm_kok (vk_F_nc s))) 25 12 = true := by decide +kernel
theorem vx_F_nc_3 : vm_rng (fun s => vm_chk bt_12 [] (vk_F_nc s) 17 (vc_F_nc s) 0 1 && (vm_ents 12 17 (vc_F_nc s) (ve_F_nc s) && vm_kok (vk_F_nc s))) 37 12 = true := by decide +kernel
theorem vx_F_nc_4 : vm_rng (fun s => vm_chk bt_12 [] (vk_F_nc s) 17 (vc_F_nc s) 0 1 && (vm_ents 12 17 (vc_F_nc s) (ve_F_nc s) && vm_kok (vk_F_nc s))) 49 12 = true := by decide +kernel
theorem vx_F_nc_5 : vm_rng (fun s => vm_chk bt_12 [] (vk_F_nc s) 17 (vc_F_nc s) 0 1 && (vm_ents 12 17 (vc_F_nc s) (ve_F_nc s) && vm_kok (vk_F_nc s))) 61 12 = true := by decide +kernel
theorem vx_F_nc_6 : vm_rng (fun s => vm_chk bt_12 [] (vk_F_nc s) 17 (vc_F_nc s) 0 1 && (vm_ents 12 17 (vc_F_nc s) (ve_F_nc s) && vm_kok (vk_F_nc s))) 73 12 = true := by decide +kernel
theorem vx_F_nc_7 : vm_rng (fun s => vm_chk bt_12 [] (vk_F_nc s) 17 (vc_F_nc s) 0 1 && (vm_ents 12 17 (vc_F_nc s) (ve_F_nc s) && vm_kok (vk_F_nc s))) 85 12 = true := by decide +kernel
theorem vx_F_nc_8 : vm_rng (fun s => vm_chk bt_12 [] (vk_F_nc s) 17 (vc_F_nc s) 0 1 && (vm_ents 12 17 (vc_F_nc s) (ve_F_nc s) && vm_kok (vk_F_nc s))) 97 12 = true := by decide +kernel
theorem vx_F_nc_9 : vm_rng (fun s => vm_chk bt_12 [] (vk_F_nc s) 17 (vc_F_nc s) 0 1 && (vm_ents 12 17 (vc_F_nc s) (ve_F_nc s) && vm_kok (vk_F_nc s))) 109 12 = true := by decide +kernel
theorem vx_F_nc_10 : vm_rng (fun s => vm_chk bt_12 [] (vk_F_nc s) 17 (vc_F_nc s) 0 1 && (vm_ents 12 17 (vc_F_nc s) (ve_F_nc s) && vm_kok (vk_F_nc s))) 121 12 = true := by decide +kernel
theorem vx_F_nc_11 : vm_rng (fun s => vm_chk bt_12 [] (vk_F_nc s) 17 (vc_F_nc s) 0 1 && (vm_ents 12 17 (vc_F_nc s) (ve_F_nc s) && vm_kok (vk_F_nc s))) 133 12 = true := by decide +kernel
theorem vx_F_nc_12 : vm_rng (fun s => vm_chk bt_12 [] (vk_F_nc s) 17 (vc_F_nc s) 0 1 && (vm_ents 12 17 (vc_F_nc s) (ve_F_nc s) && vm_kok (vk_F_nc s))) 145 12 = true := by decide +kernel
theorem vx_F_nc_13 : vm_rng (fun s => vm_chk bt_12 [] (vk_F_nc s) 17 (vc_F_nc s) 0 1 && (vm_ents 12 17 (vc_F_nc s) (ve_F_nc s) && vm_kok (vk_F_nc s))) 157 4 = true := by decide +kernel
set_option maxRecDepth 20000 in
theorem vz_F_nc (s : Nat) (h1 : 1 ≤ s) (h2 : s < 161) : (vm_chk bt_12 [] (vk_F_nc s) 17 (vc_F_nc s) 0 1 && (vm_ents 12 17 (vc_F_nc s) (ve_F_nc s) && vm_kok (vk_F_nc s))) = true := by
  by_cases g0 : s < 13
  · exact vm_rng_ok vx_F_nc_0 s (by omega) (by omega)
  by_cases g1 : s < 25
  · exact vm_rng_ok vx_F_nc_1 s (by omega) (by omega)
  by_cases g2 : s < 37
  · exact vm_rng_ok vx_F_nc_2 s (by omega) (by omega)
  by_cases g3 : s < 49
  · exact vm_rng_ok vx_F_nc_3 s (by omega) (by omega)
  by_cases g4 : s < 61
  · exact vm_rng_ok vx_F_nc_4 s (by omega) (by omega)
  by_cases g5 : s < 73
  · exact vm_rng_ok vx_F_nc_5 s (by omega) (by omega)
  by_cases g6 : s < 85
  · exact vm_rng_ok vx_F_nc_6 s (by omega) (by omega)
  by_cases g7 : s < 97
  · exact vm_rng_ok vx_F_nc_7 s (by omega) (by omega)
  by_cases g8 : s < 109
  · exact vm_rng_ok vx_F_nc_8 s (by omega) (by omega)
  by_cases g9 : s < 121
  · exact vm_rng_ok vx_F_nc_9 s (by omega) (by omega)
  by_cases g10 : s < 133
  · exact vm_rng_ok vx_F_nc_10 s (by omega) (by omega)
  by_cases g11 : s < 145
  · exact vm_rng_ok vx_F_nc_11 s (by omega) (by omega)
  by_cases g12 : s < 157
  · exact vm_rng_ok vx_F_nc_12 s (by omega) (by omega)
  exact vm_rng_ok vx_F_nc_13 s (by omega) (by omega)
theorem v_F_nc (s : Nat) (h1 : 1 ≤ s) (h2 : s < 161) : vm_at 2 (q_F_nc s) := by
  have h := vz_F_nc s h1 h2
  rw [Bool.and_eq_true, Bool.and_eq_true] at h
  exact vm_ok (inl := []) (es := ve_F_nc s) bq_12 (by decide) (vm_wts (L := 1) vm_kn h.2.2) h.2.1 (fun i => vm_hc h.1 rfl (fun h => absurd h (Nat.not_lt_zero _))) _ List.mem_cons_self
noncomputable def vp_6488 : List vm_R := [(some (.inl (.ofNat 160, .ofNat 160)), va_h368)]
noncomputable def ve_6488 : List vm_E := [([.inr (.inr (some 70)), .inl (.ofNat 160, .ofNat 160)], va_h368, 0, [0])]
noncomputable def q_6488 : vm_Q := (150, [.inr (.inr (some 70)), .inl (.ofNat 160, .ofNat 160)], va_h368, vp_6488)
noncomputable def vk_6488 : List vm_U := [((q_F_in_mid 160), true, [])]
noncomputable def vf_6488 : List ((Nat → am_I) → vm_A) := [fun v => (0, [(0, .inr (.inr (some 70))), (1, .inl (.ofNat 160, .ofNat 160))], [], (80, [(62, va_c256)]))]
noncomputable def vd_6488_0_0 : List (List Nat) := [[0]]
noncomputable def vd_6488_0 : List (List (List Nat)) := [vd_6488_0_0]
noncomputable def vd_6488 : List (List (List (List Nat))) := [vd_6488_0]
noncomputable def vt_6488 : List (List am_I) := []
noncomputable def vc_6488 : vm_C := (fun _ => vp_6488, fun pc => [], [], 1, vm_inst 8 1 vt_6488 vf_6488 vd_6488)
theorem vx_6488_0 : vm_chk bt_150 [] vk_6488 18 vc_6488 0 1 = true := by decide +kernel
theorem vy_6488 : vm_ents 150 18 vc_6488 ve_6488 = true := by decide +kernel
theorem vw_6488 : ∀ q ∈ vk_6488, vm_wt 2 q := vm_wts (vm_kc (vm_up (v_F_in_mid 160 (by decide) (by decide)) rfl) vm_kn) (by decide +kernel)
theorem v_6488 : vm_at 3 q_6488 := vm_ok (inl := []) (es := ve_6488) bq_150 (by decide) vw_6488 vy_6488 (fun i => vm_hc vx_6488_0 rfl (fun h => absurd h (Nat.not_lt_zero _))) _ List.mem_cons_self
noncomputable def va_c258 : am_C := .inr (.inr (.inr (7, [.inr (.inr (some 71)), .inr (.inr (some 72)), .inl (.ofNat 2, .ofNat 5), .inl (.ofNat 2, .ofNat 5), .inl (.ofNat 0, .ofNat 5), .inr (.inr (some 73)), .inl (.ofNat 0, .ofNat 5), .inl (.ofNat 0, .ofNat 5), .inl (.ofNat 0, .ofNat 5), .inl am_top, .inl am_top, .inl am_top, .inr (.inr (some 74)), .inl (.ofNat 0, .ofNat 0), .inl (.ofNat 0, .ofNat 160), .inl (.ofNat 0, .ofNat 160), .inl (.ofNat 0, .ofNat 3), .inl am_top, .inl (.ofNat 0, .ofNat 6), .inl am_top, .inr (.inr (some 75)), .inr (.inr (some 76)), .inr (.inr (some 77)), .inr (.inr (some 78)), .inr (.inr (some 79)), .inr (.inr (some 80)), .inr (.inr (some 81)), .inl (.negSucc 0, .ofNat 6), .inr (.inr (some 82)), .inr (.inr (some 83)), .inr (.inr (some 84)), .inr (.inr (some 85)), .inr (.inr (some 86)), .inl am_top, .inr (.inr (some 87))])))
noncomputable def va_h370 : am_H := (80, [(62, va_c258)])
noncomputable def vp_6648 : List vm_R := [(some (.inl (.ofNat 0, .ofNat 160)), va_h370)]
noncomputable def ve_6648 : List vm_E := [([.inr (.inr (some 70)), .inl (.ofNat 0, .ofNat 0)], va_h0, 0, [0])]
noncomputable def q_6648 : vm_Q := (150, [.inr (.inr (some 70)), .inl (.ofNat 0, .ofNat 0)], va_h0, vp_6648)
noncomputable def vk_6648 : List vm_U := [((q_F_in_n 0), true, [])]
noncomputable def vf_6648 : List ((Nat → am_I) → vm_A) := [fun v => (0, [(0, .inr (.inr (some 70))), (1, .inl (.ofNat 0, .ofNat 0))], [], (80, []))]
noncomputable def vd_6648_0_0 : List (List Nat) := [[0]]
noncomputable def vd_6648_0 : List (List (List Nat)) := [vd_6648_0_0]
noncomputable def vd_6648 : List (List (List (List Nat))) := [vd_6648_0]
noncomputable def vt_6648 : List (List am_I) := []
noncomputable def vc_6648 : vm_C := (fun _ => vp_6648, fun pc => [], [], 1, vm_inst 8 1 vt_6648 vf_6648 vd_6648)
theorem vx_6648_0 : vm_chk bt_150 [] vk_6648 18 vc_6648 0 1 = true := by decide +kernel
theorem vy_6648 : vm_ents 150 18 vc_6648 ve_6648 = true := by decide +kernel
theorem vw_6648 : ∀ q ∈ vk_6648, vm_wt 2 q := vm_wts (vm_kc (vm_up (v_F_in_n 0 (by decide) (by decide)) rfl) vm_kn) (by decide +kernel)
theorem v_6648 : vm_at 3 q_6648 := vm_ok (inl := []) (es := ve_6648) bq_150 (by decide) vw_6648 vy_6648 (fun i => vm_hc vx_6648_0 rfl (fun h => absurd h (Nat.not_lt_zero _))) _ List.mem_cons_self
noncomputable def vp_F_nr (s : Nat) : List vm_R := [(some (.inl (.ofNat (s + 0), .ofNat 160)), (80, [(62, .inr (.inr (.inr (7, [.inr (.inr (some 71)), .inr (.inr (some 72)), .inl (.ofNat 2, .ofNat 5), .inl (.ofNat 2, .ofNat 5), .inl (.ofNat 0, .ofNat 5), .inr (.inr (some 73)), .inl (.ofNat 0, .ofNat 5), .inl (.ofNat 0, .ofNat 5), .inl (.ofNat 0, .ofNat 5), .inl am_top, .inl am_top, .inl am_top, .inr (.inr (some 74)), .inl (.ofNat (s + 0), .ofNat (s + 0)), .inl (.ofNat 0, .ofNat 160), .inl (.ofNat 0, .ofNat 160), .inl (.ofNat 0, .ofNat 3), .inl am_top, .inl (.ofNat 0, .ofNat 6), .inl am_top, .inr (.inr (some 75)), .inr (.inr (some 76)), .inr (.inr (some 77)), .inr (.inr (some 78)), .inr (.inr (some 79)), .inr (.inr (some 80)), .inr (.inr (some 81)), .inl (.negSucc 0, .ofNat 6), .inr (.inr (some 82)), .inr (.inr (some 83)), .inr (.inr (some 84)), .inr (.inr (some 85)), .inr (.inr (some 86)), .inl am_top, .inr (.inr (some 87))]))))]))]
noncomputable def vk_F_nr (s : Nat) : List vm_U := [((q_F_in_n (s + 0)), true, [])]
noncomputable def vf_F_nr (s : Nat) : List ((Nat → am_I) → vm_A) := [fun v => (0, [(0, .inr (.inr (some 70))), (1, .inl (.ofNat (s + 0), .ofNat (s + 0)))], [], (80, [(62, .inr (.inr (.inr (7, [.inr (.inr (some 71)), .inr (.inr (some 72)), .inl (.ofNat 2, .ofNat 5), .inl (.ofNat 2, .ofNat 5), .inl (.ofNat 0, .ofNat 5), .inr (.inr (some 73)), .inl (.ofNat 0, .ofNat 5), .inl (.ofNat 0, .ofNat 5), .inl (.ofNat 0, .ofNat 5), .inl am_top, .inl am_top, .inl am_top, .inr (.inr (some 74)), .inl (.ofNat (s + 0), .ofNat 160), .inl (.ofNat 0, .ofNat 160), .inl (.ofNat 0, .ofNat 160), .inl (.ofNat 0, .ofNat 3), .inl am_top, .inl (.ofNat 0, .ofNat 6), .inl am_top, .inr (.inr (some 75)), .inr (.inr (some 76)), .inr (.inr (some 77)), .inr (.inr (some 78)), .inr (.inr (some 79)), .inr (.inr (some 80)), .inr (.inr (some 81)), .inl (.negSucc 0, .ofNat 6), .inr (.inr (some 82)), .inr (.inr (some 83)), .inr (.inr (some 84)), .inr (.inr (some 85)), .inr (.inr (some 86)), .inl am_top, .inr (.inr (some 87))]))))]))]
noncomputable def vd_F_nr_0_0 (s : Nat) : List (List Nat) := [[0]]
noncomputable def vd_F_nr_0 (s : Nat) : List (List (List Nat)) := [vd_F_nr_0_0 s]
noncomputable def vd_F_nr (s : Nat) : List (List (List (List Nat))) := [vd_F_nr_0 s]
noncomputable def vt_F_nr (s : Nat) : List (List am_I) := []
noncomputable def vc_F_nr (s : Nat) : vm_C := (fun _ => vp_F_nr s, fun pc => [], [], 1, vm_inst 8 1 (vt_F_nr s) (vf_F_nr s) (vd_F_nr s))
noncomputable def ve_F_nr (s : Nat) : List vm_E := [([.inr (.inr (some 70)), .inl (.ofNat (s + 0), .ofNat (s + 0))], (80, [(62, .inr (.inr (.inr (7, [.inr (.inr (some 71)), .inr (.inr (some 72)), .inl (.ofNat 2, .ofNat 5), .inl (.ofNat 2, .ofNat 5), .inl (.ofNat 0, .ofNat 5), .inr (.inr (some 73)), .inl (.ofNat 0, .ofNat 5), .inl (.ofNat 0, .ofNat 5), .inl (.ofNat 0, .ofNat 5), .inl am_top, .inl am_top, .inl am_top, .inr (.inr (some 74)), .inl (.ofNat (s + 0), .ofNat 160), .inl (.ofNat 0, .ofNat 160), .inl (.ofNat 0, .ofNat 160), .inl (.ofNat 0, .ofNat 3), .inl am_top, .inl (.ofNat 0, .ofNat 6), .inl am_top, .inr (.inr (some 75)), .inr (.inr (some 76)), .inr (.inr (some 77)), .inr (.inr (some 78)), .inr (.inr (some 79)), .inr (.inr (some 80)), .inr (.inr (some 81)), .inl (.negSucc 0, .ofNat 6), .inr (.inr (some 82)), .inr (.inr (some 83)), .inr (.inr (some 84)), .inr (.inr (some 85)), .inr (.inr (some 86)), .inl am_top, .inr (.inr (some 87))]))))]), 0, [0])]
noncomputable def q_F_nr (s : Nat) : vm_Q := (150, [.inr (.inr (some 70)), .inl (.ofNat (s + 0), .ofNat (s + 0))], (80, [(62, .inr (.inr (.inr (7, [.inr (.inr (some 71)), .inr (.inr (some 72)), .inl (.ofNat 2, .ofNat 5), .inl (.ofNat 2, .ofNat 5), .inl (.ofNat 0, .ofNat 5), .inr (.inr (some 73)), .inl (.ofNat 0, .ofNat 5), .inl (.ofNat 0, .ofNat 5), .inl (.ofNat 0, .ofNat 5), .inl am_top, .inl am_top, .inl am_top, .inr (.inr (some 74)), .inl (.ofNat (s + 0), .ofNat 160), .inl (.ofNat 0, .ofNat 160), .inl (.ofNat 0, .ofNat 160), .inl (.ofNat 0, .ofNat 3), .inl am_top, .inl (.ofNat 0, .ofNat 6), .inl am_top, .inr (.inr (some 75)), .inr (.inr (some 76)), .inr (.inr (some 77)), .inr (.inr (some 78)), .inr (.inr (some 79)), .inr (.inr (some 80)), .inr (.inr (some 81)), .inl (.negSucc 0, .ofNat 6), .inr (.inr (some 82)), .inr (.inr (some 83)), .inr (.inr (some 84)), .inr (.inr (some 85)), .inr (.inr (some 86)), .inl am_top, .inr (.inr (some 87))]))))]), vp_F_nr s)
theorem vx_F_nr_0 : vm_rng (fun s => vm_chk bt_150 [] (vk_F_nr s) 18 (vc_F_nr s) 0 1 && (vm_ents 150 18 (vc_F_nr s) (ve_F_nr s) && vm_kok (vk_F_nr s))) 1 11 = true := by decide +kernel
theorem vx_F_nr_1 : vm_rng (fun s => vm_chk bt_150 [] (vk_F_nr s) 18 (vc_F_nr s) 0 1 && (vm_ents 150 18 (vc_F_nr s) (ve_F_nr s) && vm_kok (vk_F_nr s))) 12 11 = true := by decide +kernel
theorem vx_F_nr_2 : vm_rng (fun s => vm_chk bt_150 [] (vk_F_nr s) 18 (vc_F_nr s) 0 1 && (vm_ents 150 18 (vc_F_nr s) (ve_F_nr s) && vm_kok (vk_F_nr s))) 23 11 = true := by decide +kernel
theorem vx_F_nr_3 : vm_rng (fun s => vm_chk bt_150 [] (vk_F_nr s) 18 (vc_F_nr s) 0 1 && (vm_ents 150 18 (vc_F_nr s) (ve_F_nr s) && vm_kok (vk_F_nr s))) 34 11 = true := by decide +kernel
theorem vx_F_nr_4 : vm_rng (fun s => vm_chk bt_150 [] (vk_F_nr s) 18 (vc_F_nr s) 0 1 && (vm_ents 150 18 (vc_F_nr s) (ve_F_nr s) && vm_kok (vk_F_nr s))) 45 11 = true := by decide +kernel
theorem vx_F_nr_5 : vm_rng (fun s => vm_chk bt_150 [] (vk_F_nr s) 18 (vc_F_nr s) 0 1 && (vm_ents 150 18 (vc_F_nr s) (ve_F_nr s) && vm_kok (vk_F_nr s))) 56 11 = true := by decide +kernel
theorem vx_F_nr_6 : vm_rng (fun s => vm_chk bt_150 [] (vk_F_nr s) 18 (vc_F_nr s) 0 1 && (vm_ents 150 18 (vc_F_nr s) (ve_F_nr s) && vm_kok (vk_F_nr s))) 67 11 = true := by decide +kernel
theorem vx_F_nr_7 : vm_rng (fun s => vm_chk bt_150 [] (vk_F_nr s) 18 (vc_F_nr s) 0 1 && (vm_ents 150 18 (vc_F_nr s) (ve_F_nr s) && vm_kok (vk_F_nr s))) 78 11 = true := by decide +kernel
theorem vx_F_nr_8 : vm_rng (fun s => vm_chk bt_150 [] (vk_F_nr s) 18 (vc_F_nr s) 0 1 && (vm_ents 150 18 (vc_F_nr s) (ve_F_nr s) && vm_kok (vk_F_nr s))) 89 11 = true := by decide +kernel
theorem vx_F_nr_9 : vm_rng (fun s => vm_chk bt_150 [] (vk_F_nr s) 18 (vc_F_nr s) 0 1 && (vm_ents 150 18 (vc_F_nr s) (ve_F_nr s) && vm_kok (vk_F_nr s))) 100 11 = true := by decide +kernel
theorem vx_F_nr_10 : vm_rng (fun s => vm_chk bt_150 [] (vk_F_nr s) 18 (vc_F_nr s) 0 1 && (vm_ents 150 18 (vc_F_nr s) (ve_F_nr s) && vm_kok (vk_F_nr s))) 111 11 = true := by decide +kernel
theorem vx_F_nr_11 : vm_rng (fun s => vm_chk bt_150 [] (vk_F_nr s) 18 (vc_F_nr s) 0 1 && (vm_ents 150 18 (vc_F_nr s) (ve_F_nr s) && vm_kok (vk_F_nr s))) 122 11 = true := by decide +kernel
theorem vx_F_nr_12 : vm_rng (fun s => vm_chk bt_150 [] (vk_F_nr s) 18 (vc_F_nr s) 0 1 && (vm_ents 150 18 (vc_F_nr s) (ve_F_nr s) && vm_kok (vk_F_nr s))) 133 11 = true := by decide +kernel
theorem vx_F_nr_13 : vm_rng (fun s => vm_chk bt_150 [] (vk_F_nr s) 18 (vc_F_nr s) 0 1 && (vm_ents 150 18 (vc_F_nr s) (ve_F_nr s) && vm_kok (vk_F_nr s))) 144 11 = true := by decide +kernel
theorem vx_F_nr_14 : vm_rng (fun s => vm_chk bt_150 [] (vk_F_nr s) 18 (vc_F_nr s) 0 1 && (vm_ents 150 18 (vc_F_nr s) (ve_F_nr s) && vm_kok (vk_F_nr s))) 155 5 = true := by decide +kernel
set_option maxRecDepth 20000 in
theorem vz_F_nr (s : Nat) (h1 : 1 ≤ s) (h2 : s < 160) : (vm_chk bt_150 [] (vk_F_nr s) 18 (vc_F_nr s) 0 1 && (vm_ents 150 18 (vc_F_nr s) (ve_F_nr s) && vm_kok (vk_F_nr s))) = true := by
  by_cases g0 : s < 12
  · exact vm_rng_ok vx_F_nr_0 s (by omega) (by omega)
  by_cases g1 : s < 23
  · exact vm_rng_ok vx_F_nr_1 s (by omega) (by omega)
  by_cases g2 : s < 34
  · exact vm_rng_ok vx_F_nr_2 s (by omega) (by omega)
  by_cases g3 : s < 45
  · exact vm_rng_ok vx_F_nr_3 s (by omega) (by omega)
  by_cases g4 : s < 56
  · exact vm_rng_ok vx_F_nr_4 s (by omega) (by omega)
  by_cases g5 : s < 67
  · exact vm_rng_ok vx_F_nr_5 s (by omega) (by omega)
  by_cases g6 : s < 78
  · exact vm_rng_ok vx_F_nr_6 s (by omega) (by omega)
  by_cases g7 : s < 89
  · exact vm_rng_ok vx_F_nr_7 s (by omega) (by omega)
  by_cases g8 : s < 100
  · exact vm_rng_ok vx_F_nr_8 s (by omega) (by omega)
  by_cases g9 : s < 111
  · exact vm_rng_ok vx_F_nr_9 s (by omega) (by omega)
  by_cases g10 : s < 122
  · exact vm_rng_ok vx_F_nr_10 s (by omega) (by omega)
  by_cases g11 : s < 133
  · exact vm_rng_ok vx_F_nr_11 s (by omega) (by omega)
  by_cases g12 : s < 144
  · exact vm_rng_ok vx_F_nr_12 s (by omega) (by omega)
  by_cases g13 : s < 155
  · exact vm_rng_ok vx_F_nr_13 s (by omega) (by omega)
  exact vm_rng_ok vx_F_nr_14 s (by omega) (by omega)
theorem v_F_nr (s : Nat) (h1 : 1 ≤ s) (h2 : s < 160) : vm_at 3 (q_F_nr s) := by
  have h := vz_F_nr s h1 h2
  rw [Bool.and_eq_true, Bool.and_eq_true] at h
  exact vm_ok (inl := []) (es := ve_F_nr s) bq_150 (by decide) (vm_wts (L := 2) (vm_kc (vm_up (v_F_in_n (s + 0) (by omega) (by omega)) rfl) vm_kn) h.2.2) h.2.1 (fun i => vm_hc h.1 rfl (fun h => absurd h (Nat.not_lt_zero _))) _ List.mem_cons_self
noncomputable def vp_6649 : List vm_R := [(some (.inl am_top), va_h369)]
noncomputable def ve_6649 : List vm_E := [([.inr (.inr (some 8))], va_h0, 0, [0])]
noncomputable def q_6649 : vm_Q := (13, [.inr (.inr (some 8))], va_h0, vp_6649)
noncomputable def vk_6649 : List vm_U := [(q_241, false, []), (q_40, false, [(2, 1, 1), (3, 3, 2)])]
noncomputable def vf_6649 : List ((Nat → am_I) → vm_A) := [fun v => (0, [(0, .inr (.inr (some 8)))], [], (80, []))]
noncomputable def vd_6649_0_0 : List (List Nat) := [[0]]
noncomputable def vd_6649_0 : List (List (List Nat)) := [vd_6649_0_0]
noncomputable def vd_6649 : List (List (List (List Nat))) := [vd_6649_0]
noncomputable def vt_6649 : List (List am_I) := []
noncomputable def vc_6649 : vm_C := (fun _ => vp_6649, fun pc => [], [], 1, vm_inst 8 1 vt_6649 vf_6649 vd_6649)
theorem vx_6649_0 : vm_chk bt_13 [] vk_6649 26 vc_6649 0 1 = true := by decide +kernel
theorem vy_6649 : vm_ents 13 26 vc_6649 ve_6649 = true := by decide +kernel
theorem vw_6649 : ∀ q ∈ vk_6649, vm_wt 8 q := vm_wts (vm_kc (vm_up v_241 rfl) (vm_kc (vm_up v_40 rfl) vm_kn)) (by decide +kernel)
theorem v_6649 : vm_at 9 q_6649 := vm_ok (inl := []) (es := ve_6649) bq_13 (by decide) vw_6649 vy_6649 (fun i => vm_hc vx_6649_0 rfl (fun h => absurd h (Nat.not_lt_zero _))) _ List.mem_cons_self
noncomputable def vp_6650 : List vm_R := [(some (.inl am_top), va_h370)]
noncomputable def ve_6650 : List vm_E := [([.inr (.inr (some 70))], va_h0, 0, [0])]
noncomputable def q_6650 : vm_Q := (151, [.inr (.inr (some 70))], va_h0, vp_6650)
noncomputable def vk_6650 : List vm_U := [(q_3509, false, [(7, 62, 14), (7, 62, 18)]), (q_3510, false, [(7, 62, 6), (7, 62, 7), (7, 62, 13), (7, 62, 14), (7, 62, 16), (7, 62, 18)]), ((qj_898 0), false, [(7, 62, 6), (7, 62, 7)]), (q_854, false, [(7, 62, 14), (7, 62, 16)]), (q_856, false, [(7, 62, 14), (7, 62, 16)]), (q_964, false, []), (q_996, false, []), (q_1028, false, []), ((q_F_readLine 153), false, []), ((q_F_readLine 151), false, []), ((q_F_readLine 149), false, []), ((q_F_readLine 147), false, []), ((q_F_readLine 145), false, []), ((q_F_readLine 143), false, []), ((q_F_readLine 141), false, []), ((q_F_readLine 139), false, []), ((q_F_readLine 137), false, []), ((q_F_readLine 135), false, []), ((q_F_readLine 133), false, []), ((q_F_readLine 131), false, []), ((q_F_readLine 129), false, []), ((q_F_readLine 127), false, []), ((q_F_readLine 125), false, []), ((q_F_readLine 123), false, []), ((q_F_readLine 121), false, []), ((q_F_readLine 119), false, []), ((q_F_readLine 117), false, []), ((q_F_readLine 115), false, []), ((q_F_readLine 113), false, []), ((q_F_readLine 111), false, []), ((q_F_readLine 109), false, []), ((q_F_readLine 107), false, []), ((q_F_readLine 105), false, []), ((q_F_readLine 103), false, []), ((q_F_readLine 101), false, []), ((q_F_readLine 99), false, []), ((q_F_readLine 97), false, []), ((q_F_readLine 95), false, []), ((q_F_readLine 93), false, []), ((q_F_readLine 91), false, []), ((q_F_readLine 89), false, []), ((q_F_readLine 87), false, []), ((q_F_readLine 85), false, []), ((q_F_readLine 83), false, []), ((q_F_readLine 81), false, []), ((q_F_readLine 79), false, []), ((q_F_readLine 77), false, []), ((q_F_readLine 75), false, []), ((q_F_readLine 73), false, []), ((q_F_readLine 71), false, []), ((q_F_readLine 69), false, []), ((q_F_readLine 67), false, []), ((q_F_readLine 65), false, []), ((q_F_readLine 63), false, []), ((q_F_readLine 61), false, []), ((q_F_readLine 59), false, []), ((q_F_readLine 57), false, []), ((q_F_readLine 55), false, []), ((q_F_readLine 53), false, []), ((q_F_readLine 51), false, []), ((q_F_readLine 49), false, []), ((q_F_readLine 47), false, []), ((q_F_readLine 45), false, []), ((q_F_readLine 43), false, []), ((q_F_readLine 41), false, []), ((q_F_readLine 39), false, []), ((q_F_readLine 37), false, []), ((q_F_readLine 35), false, []), ((q_F_readLine 33), false, []), ((q_F_readLine 31), false, []), ((q_F_readLine 29), false, []), ((q_F_readLine 27), false, []), ((q_F_readLine 25), false, []), ((q_F_readLine 23), false, []), ((q_F_readLine 21), false, []), ((q_F_readLine 19), false, []), ((q_F_readLine 17), false, []), ((q_F_readLine 15), false, []), ((q_F_readLine 13), false, []), ((q_F_readLine 11), false, []), ((q_F_readLine 9), false, []), ((q_F_readLine 7), false, []), ((q_F_readLine 5), false, []), ((q_F_readLine 3), false, []), ((q_F_readLine 1), false, [])]
noncomputable def vf_6650 : List ((Nat → am_I) → vm_A) := [fun v => (0, [(0, .inr (.inr (some 70)))], [], (80, [])), fun v => (17, [(0, .inr (.inr (some 70))), (1, .inl (.ofNat 0, .ofNat 0))], [.inr (.inr (some 70))], (80, [(62, va_c65)])), fun v => (20, [(0, .inr (.inr (some 70))), (1, .inl (v 0))], [], (80, [(62, .inr (.inr (.inr (7, [.inr (.inr (some 71)), .inr (.inr (some 72)), .inl (.ofNat 2, .ofNat 5), .inl (.ofNat 2, .ofNat 5), .inl (.ofNat 0, .ofNat 5), .inr (.inr (some 73)), .inl (v 1), .inl (v 2), .inl (.ofNat 0, .ofNat 5), .inl am_top, .inl am_top, .inl am_top, .inr (.inr (some 74)), .inl (.ofNat 0, .ofNat 160), .inl (v 3), .inl (.ofNat 0, .ofNat 160), .inl (v 4), .inl am_top, .inl (v 5), .inl am_top, .inr (.inr (some 75)), .inr (.inr (some 76)), .inr (.inr (some 77)), .inr (.inr (some 78)), .inr (.inr (some 79)), .inr (.inr (some 80)), .inr (.inr (some 81)), .inl (.negSucc 0, .ofNat 6), .inr (.inr (some 82)), .inr (.inr (some 83)), .inr (.inr (some 84)), .inr (.inr (some 85)), .inr (.inr (some 86)), .inl am_top, .inr (.inr (some 87))]))))]))]
noncomputable def vd_6650_0_0 : List (List Nat) := [[4294967296, 291355549745703334281478145, 356611818672173144313829653673099584752323246686210, 19411192380507221797991234928642, 356611885574408739905778302815991208191113784459266, 19569648705535750754653299539970, 356611930175899136967103810423164558981542816251906, 19728105030564279711315364151298], [356611974777389534028429318030337909771971848044546, 19886561355592808667977428762626, 356612019378879931089754825637511260562400879837186, 20045017680621337624639493373954, 356612063980370328151080333244684611352829911629826, 20203474005649866581301557985282, 356612108581860725212405840851857962143258943422466, 20361930330678395537963622596610], [356612153183351122273731348459031312933687975215106, 20520386655706924494625687207938, 356612197784841519335056856066204663724117007007746, 20678842980735453451287751819266, 356612242386331916396382363673378014514546038800386, 20837299305763982407949816430594, 356612286987822313457707871280551365304975070593026, 20995755630792511364611881041922], [356612331589312710519033378887724716095404102385666, 21154211955821040321273945653250, 356612376190803107580358886494898066885833134178306, 21312668280849569277936010264578, 356612420792293504641684394102071417676262165970946, 21471124605878098234598074875906, 356612465393783901703009901709244768466691197763586, 21629580930906627191260139487234], [356612509995274298764335409316418119257120229556226, 21788037255935156147922204098562, 356612554596764695825660916923591470047549261348866, 21946493580963685104584268709890, 356612599198255092886986424530764820837978293141506, 22104949905992214061246333321218, 356612643799745489948311932137938171628407324934146, 22263406231020743017908397932546], [356612688401235887009637439745111522418836356726786, 22421862556049271974570462543874, 356612733002726284070962947352284873209265388519426, 22580318881077800931232527155202, 356612777604216681132288454959458223999694420312066, 22738775206106329887894591766530, 356612822205707078193613962566631574790123452104706, 22897231531134858844556656377858], [356612866807197475254939470173804925580552483897346, 23055687856163387801218720989186, 356612911408687872316264977780978276370981515689986, 23214144181191916757880785600514, 356612956010178269377590485388151627161410547482626, 23372600506220445714542850211842, 356613000611668666438915992995324977951839579275266, 23531056831248974671204914823170], [356613045213159063500241500602498328742268611067906, 23689513156277503627866979434498, 356613089814649460561567008209671679532697642860546, 23847969481306032584529044045826, 356613134416139857622892515816845030323126674653186, 24006425806334561541191108657154, 356613179017630254684218023424018381113555706445826, 24164882131363090497853173268482]]
noncomputable def vd_6650_0_1 : List (List Nat) := [[356613223619120651745543531031191731903984738238466, 24323338456391619454515237879810, 356613268220611048806869038638365082694413770031106, 24481794781420148411177302491138, 356613312822101445868194546245538433484842801823746, 24640251106448677367839367102466, 356613357423591842929520053852711784275271833616386, 24798707431477206324501431713794], [356613402025082239990845561459885135065700865409026, 24957163756505735281163496325122, 356613446626572637052171069067058485856129897201666, 25115620081534264237825560936450, 356613491228063034113496576674231836646558928994306, 25274076406562793194487625547778, 356613535829553431174822084281405187436987960786946, 25432532731591322151149690159106], [356613580431043828236147591888578538227416992579586, 25590989056619851107811754770434, 356613625032534225297473099495751889017846024372226, 25749445381648380064473819381762, 356613669634024622358798607102925239808275056164866, 25907901706676909021135883993090, 356613714235515019420124114710098590598704087957506, 26066358031705437977797948604418], [356613758837005416481449622317271941389133119750146, 26224814356733966934460013215746, 356613803438495813542775129924445292179562151542786, 26383270681762495891122077827074, 356613848039986210604100637531618642969991183335426, 26541727006791024847784142438402, 356613892641476607665426145138791993760420215128066, 26700183331819553804446207049730], [356613937242967004726751652745965344550849246920706, 26858639656848082761108271661058, 356613981844457401788077160353138695341278278713346, 27017095981876611717770336272386, 356614026445947798849402667960312046131707310505986, 27175552306905140674432400883714, 356614071047438195910728175567485396922136342298626, 27334008631933669631094465495042], [356614115648928592972053683174658747712565374091266, 27492464956962198587756530106370, 356614160250418990033379190781832098502994405883906, 27650921281990727544418594717698, 356614204851909387094704698389005449293423437676546, 27809377607019256501080659329026, 356614249453399784156030205996178800083852469469186, 27967833932047785457742723940354], [356614294054890181217355713603352150874281501261826, 28126290257076314414404788551682, 356614338656380578278681221210525501664710533054466, 28284746582104843371066853163010, 356614383257870975340006728817698852455139564847106, 28443202907133372327728917774338, 356614427859361372401332236424872203245568596639746, 28601659232161901284390982385666], [356614472460851769462657744032045554035997628432386, 28760115557190430241053046996994, 356614517062342166523983251639218904826426660225026, 28918571882218959197715111608322, 356614561663832563585308759246392255616855692017666, 29077028207247488154377176219650, 356614606265322960646634266853565606407284723810306, 29235484532276017111039240830978]]
noncomputable def vd_6650_0_2 : List (List Nat) := [[356614650866813357707959774460738957197713755602946, 29393940857304546067701305442306, 356614695468303754769285282067912307988142787395586, 29552397182333075024363370053634, 356614740069794151830610789675085658778571819188226, 29710853507361603981025434664962, 356614784671284548891936297282259009569000850980866, 29869309832390132937687499276290], [356614829272774945953261804889432360359429882773506, 30027766157418661894349563887618, 356614873874265343014587312496605711149858914566146, 30186222482447190851011628498946, 356614918475755740075912820103779061940287946358786, 30344678807475719807673693110274, 356614963077246137137238327710952412730716978151426, 30503135132504248764335757721602], [356615007678736534198563835318125763521146009944066, 30661591457532777720997822332930, 356615052280226931259889342925299114311575041736706, 30820047782561306677659886944258, 356615096881717328321214850532472465102004073529346, 30978504107589835634321951555586, 356615141483207725382540358139645815892433105321986, 31136960432618364590984016166914], [356615186084698122443865865746819166682862137114626, 31295416757646893547646080778242, 356615230686188519505191373353992517473291168907266, 31453873082675422504308145389570, 356615275287678916566516880961165868263720200699906, 31612329407703951460970210000898, 356615319889169313627842388568339219054149232492546, 31770785732732480417632274612226], [5441518623209529276873289431388765314688745474, 12676798566794775339063159291906, 138156743882137387631621802931363476668418, 138156743882137387631621802649888499957762, 138156743882137387631621802368413523247106, 138156743882137387631621802086938546536450, 138156743882137387631621801805463569825794, 138156743882137387631621801523988593115138], [138156743882137387631621801242513616404482, 138156743882137387631621800961038639693826, 138156743882137387631621800679563662983170, 138156743882137387631621800398088686272514, 138156743882137387631621800116613709561858, 138156743882137387631621799835138732851202, 138156743882137387631621799553663756140546, 138156743882137387631621799272188779429890], [138156743882137387631621798990713802719234, 138156743882137387631621798709238826008578, 138156743882137387631621798427763849297922, 138156743882137387631621798146288872587266, 138156743882137387631621797864813895876610, 138156743882137387631621797583338919165954, 138156743882137387631621797301863942455298, 138156743882137387631621797020388965744642], [138156743882137387631621796738913989033986, 138156743882137387631621796457439012323330, 138156743882137387631621796175964035612674, 138156743882137387631621795894489058902018, 138156743882137387631621795613014082191362, 138156743882137387631621795331539105480706, 138156743882137387631621795050064128770050, 138156743882137387631621794768589152059394]]
noncomputable def vd_6650_0_3 : List (List Nat) := [[138156743882137387631621794487114175348738, 138156743882137387631621794205639198638082, 138156743882137387631621793924164221927426, 138156743882137387631621793642689245216770, 138156743882137387631621793361214268506114, 138156743882137387631621793079739291795458, 138156743882137387631621792798264315084802, 138156743882137387631621792516789338374146], [138156743882137387631621792235314361663490, 138156743882137387631621791953839384952834, 138156743882137387631621791672364408242178, 138156743882137387631621791390889431531522, 138156743882137387631621791109414454820866, 138156743882137387631621790827939478110210, 138156743882137387631621790546464501399554, 138156743882137387631621790264989524688898], [138156743882137387631621789983514547978242, 138156743882137387631621789702039571267586, 138156743882137387631621789420564594556930, 138156743882137387631621789139089617846274, 138156743882137387631621788857614641135618, 138156743882137387631621788576139664424962, 138156743882137387631621788294664687714306, 138156743882137387631621788013189711003650], [138156743882137387631621787731714734292994, 138156743882137387631621787450239757582338, 138156743882137387631621787168764780871682, 138156743882137387631621786887289804161026, 138156743882137387631621786605814827450370, 138156743882137387631621786324339850739714, 138156743882137387631621786042864874029058, 138156743882137387631621785761389897318402], [138156743882137387631621785479914920607746, 138156743882137387631621785198439943897090, 138156743882137387631621784916964967186434, 138156743882137387631621784635489990475778, 138156743882137387631621784354015013765122, 138156743882137387631621784072540037054466, 138156743882137387631621783791065060343810, 138156743882137387631621783509590083633154], [138156743882137387631621783228115106922498, 138156743882137387631621782946640130211842, 138156743882137387631621782665165153501186, 138156743882137387631621782383690176790530, 138156743882137387631621782102215200079874, 138156743882137387631621781820740223369218, 138156743882137387631621781539265246658562, 138156743882137387631621781257790269947906], [138156743882137387631621780976315293237250, 138156743882137387631621780694840316526594, 138156743882137387631621780413365339815938, 32008470220275251193889746321410]]
noncomputable def vd_6650_0 : List (List (List Nat)) := [vd_6650_0_0, vd_6650_0_1, vd_6650_0_2, vd_6650_0_3]
noncomputable def vd_6650 : List (List (List (List Nat))) := [vd_6650_0]
noncomputable def vt_6650 : List (List am_I) := [[(.ofNat 2, .ofNat 5), (.ofNat 1, .ofNat 160), (.ofNat 1, .ofNat 3), (.ofNat 2, .ofNat 160), (.ofNat 3, .ofNat 160), (.ofNat 4, .ofNat 160), (.ofNat 5, .ofNat 160), (.ofNat 6, .ofNat 160)], [(.ofNat 7, .ofNat 160), (.ofNat 8, .ofNat 160), (.ofNat 9, .ofNat 160), (.ofNat 10, .ofNat 160), (.ofNat 11, .ofNat 160), (.ofNat 12, .ofNat 160), (.ofNat 13, .ofNat 160), (.ofNat 14, .ofNat 160)], [(.ofNat 15, .ofNat 160), (.ofNat 16, .ofNat 160), (.ofNat 17, .ofNat 160), (.ofNat 18, .ofNat 160), (.ofNat 19, .ofNat 160), (.ofNat 20, .ofNat 160), (.ofNat 21, .ofNat 160), (.ofNat 22, .ofNat 160)], [(.ofNat 23, .ofNat 160), (.ofNat 24, .ofNat 160), (.ofNat 25, .ofNat 160), (.ofNat 26, .ofNat 160), (.ofNat 27, .ofNat 160), (.ofNat 28, .ofNat 160), (.ofNat 29, .ofNat 160), (.ofNat 30, .ofNat 160)], [(.ofNat 31, .ofNat 160), (.ofNat 32, .ofNat 160), (.ofNat 33, .ofNat 160), (.ofNat 34, .ofNat 160), (.ofNat 35, .ofNat 160), (.ofNat 36, .ofNat 160), (.ofNat 37, .ofNat 160), (.ofNat 38, .ofNat 160)], [(.ofNat 39, .ofNat 160), (.ofNat 40, .ofNat 160), (.ofNat 41, .ofNat 160), (.ofNat 42, .ofNat 160), (.ofNat 43, .ofNat 160), (.ofNat 44, .ofNat 160), (.ofNat 45, .ofNat 160), (.ofNat 46, .ofNat 160)], [(.ofNat 47, .ofNat 160), (.ofNat 48, .ofNat 160), (.ofNat 49, .ofNat 160), (.ofNat 50, .ofNat 160), (.ofNat 51, .ofNat 160), (.ofNat 52, .ofNat 160), (.ofNat 53, .ofNat 160), (.ofNat 54, .ofNat 160)], [(.ofNat 55, .ofNat 160), (.ofNat 56, .ofNat 160), (.ofNat 57, .ofNat 160), (.ofNat 58, .ofNat 160), (.ofNat 59, .ofNat 160), (.ofNat 60, .ofNat 160), (.ofNat 61, .ofNat 160), (.ofNat 62, .ofNat 160)], [(.ofNat 63, .ofNat 160), (.ofNat 64, .ofNat 160), (.ofNat 65, .ofNat 160), (.ofNat 66, .ofNat 160), (.ofNat 67, .ofNat 160), (.ofNat 68, .ofNat 160), (.ofNat 69, .ofNat 160), (.ofNat 70, .ofNat 160)], [(.ofNat 71, .ofNat 160), (.ofNat 72, .ofNat 160), (.ofNat 73, .ofNat 160), (.ofNat 74, .ofNat 160), (.ofNat 75, .ofNat 160), (.ofNat 76, .ofNat 160), (.ofNat 77, .ofNat 160), (.ofNat 78, .ofNat 160)], [(.ofNat 79, .ofNat 160), (.ofNat 80, .ofNat 160), (.ofNat 81, .ofNat 160), (.ofNat 82, .ofNat 160), (.ofNat 83, .ofNat 160), (.ofNat 84, .ofNat 160), (.ofNat 85, .ofNat 160), (.ofNat 86, .ofNat 160)], [(.ofNat 87, .ofNat 160), (.ofNat 88, .ofNat 160), (.ofNat 89, .ofNat 160), (.ofNat 90, .ofNat 160), (.ofNat 91, .ofNat 160), (.ofNat 92, .ofNat 160), (.ofNat 93, .ofNat 160), (.ofNat 94, .ofNat 160)], [(.ofNat 95, .ofNat 160), (.ofNat 96, .ofNat 160), (.ofNat 97, .ofNat 160), (.ofNat 98, .ofNat 160), (.ofNat 99, .ofNat 160), (.ofNat 100, .ofNat 160), (.ofNat 101, .ofNat 160), (.ofNat 102, .ofNat 160)], [(.ofNat 103, .ofNat 160), (.ofNat 104, .ofNat 160), (.ofNat 105, .ofNat 160), (.ofNat 106, .ofNat 160), (.ofNat 107, .ofNat 160), (.ofNat 108, .ofNat 160), (.ofNat 109, .ofNat 160), (.ofNat 110, .ofNat 160)], [(.ofNat 111, .ofNat 160), (.ofNat 112, .ofNat 160), (.ofNat 113, .ofNat 160), (.ofNat 114, .ofNat 160), (.ofNat 115, .ofNat 160), (.ofNat 116, .ofNat 160), (.ofNat 117, .ofNat 160), (.ofNat 118, .ofNat 160)], [(.ofNat 119, .ofNat 160), (.ofNat 120, .ofNat 160), (.ofNat 121, .ofNat 160), (.ofNat 122, .ofNat 160), (.ofNat 123, .ofNat 160), (.ofNat 124, .ofNat 160), (.ofNat 125, .ofNat 160), (.ofNat 126, .ofNat 160)], [(.ofNat 127, .ofNat 160), (.ofNat 128, .ofNat 160), (.ofNat 129, .ofNat 160), (.ofNat 130, .ofNat 160), (.ofNat 131, .ofNat 160), (.ofNat 132, .ofNat 160), (.ofNat 133, .ofNat 160), (.ofNat 134, .ofNat 160)], [(.ofNat 135, .ofNat 160), (.ofNat 136, .ofNat 160), (.ofNat 137, .ofNat 160), (.ofNat 138, .ofNat 160), (.ofNat 139, .ofNat 160), (.ofNat 140, .ofNat 160), (.ofNat 141, .ofNat 160), (.ofNat 142, .ofNat 160)], [(.ofNat 143, .ofNat 160), (.ofNat 144, .ofNat 160), (.ofNat 145, .ofNat 160), (.ofNat 146, .ofNat 160), (.ofNat 147, .ofNat 160), (.ofNat 148, .ofNat 160), (.ofNat 149, .ofNat 160), (.ofNat 150, .ofNat 160)], [(.ofNat 151, .ofNat 160), (.ofNat 152, .ofNat 160), (.ofNat 153, .ofNat 160), (.ofNat 154, .ofNat 160), (.ofNat 155, .ofNat 160), (.ofNat 156, .ofNat 160), (.ofNat 157, .ofNat 160), (.ofNat 158, .ofNat 160)], [(.ofNat 159, .ofNat 160), (.ofNat 0, .ofNat 5), (.ofNat 0, .ofNat 160), (.ofNat 0, .ofNat 3), (.ofNat 1, .ofNat 6)]]
noncomputable def vc_6650 : vm_C := (fun _ => vp_6650, fun pc => [], [17, 20], 244, vm_inst 16 242 vt_6650 vf_6650 vd_6650)
theorem vx_6650_0 : vm_chk bt_151 [] vk_6650 39 vc_6650 0 8 = true := by decide +kernel
theorem vx_6650_1 : vm_chk bt_151 [] vk_6650 39 vc_6650 8 6 = true := by decide +kernel
theorem vx_6650_2 : vm_chk bt_151 [] vk_6650 39 vc_6650 14 6 = true := by decide +kernel
theorem vx_6650_3 : vm_chk bt_151 [] vk_6650 39 vc_6650 20 6 = true := by decide +kernel
theorem vx_6650_4 : vm_chk bt_151 [] vk_6650 39 vc_6650 26 6 = true := by decide +kernel
theorem vx_6650_5 : vm_chk bt_151 [] vk_6650 39 vc_6650 32 6 = true := by decide +kernel
theorem vx_6650_6 : vm_chk bt_151 [] vk_6650 39 vc_6650 38 6 = true := by decide +kernel
theorem vx_6650_7 : vm_chk bt_151 [] vk_6650 39 vc_6650 44 6 = true := by decide +kernel
theorem vx_6650_8 : vm_chk bt_151 [] vk_6650 39 vc_6650 50 6 = true := by decide +kernel
theorem vx_6650_9 : vm_chk bt_151 [] vk_6650 39 vc_6650 56 6 = true := by decide +kernel
theorem vx_6650_10 : vm_chk bt_151 [] vk_6650 39 vc_6650 62 6 = true := by decide +kernel
theorem vx_6650_11 : vm_chk bt_151 [] vk_6650 39 vc_6650 68 6 = true := by decide +kernel
theorem vx_6650_12 : vm_chk bt_151 [] vk_6650 39 vc_6650 74 6 = true := by decide +kernel
theorem vx_6650_13 : vm_chk bt_151 [] vk_6650 39 vc_6650 80 6 = true := by decide +kernel
theorem vx_6650_14 : vm_chk bt_151 [] vk_6650 39 vc_6650 86 6 = true := by decide +kernel
theorem vx_6650_15 : vm_chk bt_151 [] vk_6650 39 vc_6650 92 6 = true := by decide +kernel
theorem vx_6650_16 : vm_chk bt_151 [] vk_6650 39 vc_6650 98 6 = true := by decide +kernel
theorem vx_6650_17 : vm_chk bt_151 [] vk_6650 39 vc_6650 104 6 = true := by decide +kernel
theorem vx_6650_18 : vm_chk bt_151 [] vk_6650 39 vc_6650 110 6 = true := by decide +kernel
theorem vx_6650_19 : vm_chk bt_151 [] vk_6650 39 vc_6650 116 6 = true := by decide +kernel
theorem vx_6650_20 : vm_chk bt_151 [] vk_6650 39 vc_6650 122 6 = true := by decide +kernel
theorem vx_6650_21 : vm_chk bt_151 [] vk_6650 39 vc_6650 128 6 = true := by decide +kernel
theorem vx_6650_22 : vm_chk bt_151 [] vk_6650 39 vc_6650 134 6 = true := by decide +kernel
theorem vx_6650_23 : vm_chk bt_151 [] vk_6650 39 vc_6650 140 6 = true := by decide +kernel
theorem vx_6650_24 : vm_chk bt_151 [] vk_6650 39 vc_6650 146 6 = true := by decide +kernel
theorem vx_6650_25 : vm_chk bt_151 [] vk_6650 39 vc_6650 152 6 = true := by decide +kernel
theorem vx_6650_26 : vm_chk bt_151 [] vk_6650 39 vc_6650 158 7 = true := by decide +kernel
theorem vx_6650_27 : vm_chk bt_151 [] vk_6650 39 vc_6650 165 11 = true := by decide +kernel
theorem vx_6650_28 : vm_chk bt_151 [] vk_6650 39 vc_6650 176 11 = true := by decide +kernel
theorem vx_6650_29 : vm_chk bt_151 [] vk_6650 39 vc_6650 187 11 = true := by decide +kernel
theorem vx_6650_30 : vm_chk bt_151 [] vk_6650 39 vc_6650 198 11 = true := by decide +kernel
theorem vx_6650_31 : vm_chk bt_151 [] vk_6650 39 vc_6650 209 11 = true := by decide +kernel
theorem vx_6650_32 : vm_chk bt_151 [] vk_6650 39 vc_6650 220 11 = true := by decide +kernel
theorem vx_6650_33 : vm_chk bt_151 [] vk_6650 39 vc_6650 231 11 = true := by decide +kernel
theorem vx_6650_34 : vm_chk bt_151 [] vk_6650 39 vc_6650 242 2 = true := by decide +kernel
theorem vy_6650 : vm_ents 151 39 vc_6650 ve_6650 = true := by decide +kernel
theorem vw_6650 : ∀ q ∈ vk_6650, vm_wt 7 q := vm_wts (vm_kc (vm_up v_3509 rfl) (vm_kc (vm_up v_3510 rfl) (vm_kc (vm_up (vj_898 0 (by decide)) rfl) (vm_kc (vm_up v_854 rfl) (vm_kc (vm_up v_856 rfl) (vm_kc (vm_up v_964 rfl) (vm_kc (vm_up v_996 rfl) (vm_kc (vm_up v_1028 rfl) (vm_kc (vm_up (v_F_readLine 153 (by decide) (by decide)) rfl) (vm_kc (vm_up (v_F_readLine 151 (by decide) (by decide)) rfl) (vm_kc (vm_up (v_F_readLine 149 (by decide) (by decide)) rfl) (vm_kc (vm_up (v_F_readLine 147 (by decide) (by decide)) rfl) (vm_kc (vm_up (v_F_readLine 145 (by decide) (by decide)) rfl) (vm_kc (vm_up (v_F_readLine 143 (by decide) (by decide)) rfl) (vm_kc (vm_up (v_F_readLine 141 (by decide) (by decide)) rfl) (vm_kc (vm_up (v_F_readLine 139 (by decide) (by decide)) rfl) (vm_kc (vm_up (v_F_readLine 137 (by decide) (by decide)) rfl) (vm_kc (vm_up (v_F_readLine 135 (by decide) (by decide)) rfl) (vm_kc (vm_up (v_F_readLine 133 (by decide) (by decide)) rfl) (vm_kc (vm_up (v_F_readLine 131 (by decide) (by decide)) rfl) (vm_kc (vm_up (v_F_readLine 129 (by decide) (by decide)) rfl) (vm_kc (vm_up (v_F_readLine 127 (by decide) (by decide)) rfl) (vm_kc (vm_up (v_F_readLine 125 (by decide) (by decide)) rfl) (vm_kc (vm_up (v_F_readLine 123 (by decide) (by decide)) rfl) (vm_kc (vm_up (v_F_readLine 121 (by decide) (by decide)) rfl) (vm_kc (vm_up (v_F_readLine 119 (by decide) (by decide)) rfl) (vm_kc (vm_up (v_F_readLine 117 (by decide) (by decide)) rfl) (vm_kc (vm_up (v_F_readLine 115 (by decide) (by decide)) rfl) (vm_kc (vm_up (v_F_readLine 113 (by decide) (by decide)) rfl) (vm_kc (vm_up (v_F_readLine 111 (by decide) (by decide)) rfl) (vm_kc (vm_up (v_F_readLine 109 (by decide) (by decide)) rfl) (vm_kc (vm_up (v_F_readLine 107 (by decide) (by decide)) rfl) (vm_kc (vm_up (v_F_readLine 105 (by decide) (by decide)) rfl) (vm_kc (vm_up (v_F_readLine 103 (by decide) (by decide)) rfl) (vm_kc (vm_up (v_F_readLine 101 (by decide) (by decide)) rfl) (vm_kc (vm_up (v_F_readLine 99 (by decide) (by decide)) rfl) (vm_kc (vm_up (v_F_readLine 97 (by decide) (by decide)) rfl) (vm_kc (vm_up (v_F_readLine 95 (by decide) (by decide)) rfl) (vm_kc (vm_up (v_F_readLine 93 (by decide) (by decide)) rfl) (vm_kc (vm_up (v_F_readLine 91 (by decide) (by decide)) rfl) (vm_kc (vm_up (v_F_readLine 89 (by decide) (by decide)) rfl) (vm_kc (vm_up (v_F_readLine 87 (by decide) (by decide)) rfl) (vm_kc (vm_up (v_F_readLine 85 (by decide) (by decide)) rfl) (vm_kc (vm_up (v_F_readLine 83 (by decide) (by decide)) rfl) (vm_kc (vm_up (v_F_readLine 81 (by decide) (by decide)) rfl) (vm_kc (vm_up (v_F_readLine 79 (by decide) (by decide)) rfl) (vm_kc (vm_up (v_F_readLine 77 (by decide) (by decide)) rfl) (vm_kc (vm_up (v_F_readLine 75 (by decide) (by decide)) rfl) (vm_kc (vm_up (v_F_readLine 73 (by decide) (by decide)) rfl) (vm_kc (vm_up (v_F_readLine 71 (by decide) (by decide)) rfl) (vm_kc (vm_up (v_F_readLine 69 (by decide) (by decide)) rfl) (vm_kc (vm_up (v_F_readLine 67 (by decide) (by decide)) rfl) (vm_kc (vm_up (v_F_readLine 65 (by decide) (by decide)) rfl) (vm_kc (vm_up (v_F_readLine 63 (by decide) (by decide)) rfl) (vm_kc (vm_up (v_F_readLine 61 (by decide) (by decide)) rfl) (vm_kc (vm_up (v_F_readLine 59 (by decide) (by decide)) rfl) (vm_kc (vm_up (v_F_readLine 57 (by decide) (by decide)) rfl) (vm_kc (vm_up (v_F_readLine 55 (by decide) (by decide)) rfl) (vm_kc (vm_up (v_F_readLine 53 (by decide) (by decide)) rfl) (vm_kc (vm_up (v_F_readLine 51 (by decide) (by decide)) rfl) (vm_kc (vm_up (v_F_readLine 49 (by decide) (by decide)) rfl) (vm_kc (vm_up (v_F_readLine 47 (by decide) (by decide)) rfl) (vm_kc (vm_up (v_F_readLine 45 (by decide) (by decide)) rfl) (vm_kc (vm_up (v_F_readLine 43 (by decide) (by decide)) rfl) (vm_kc (vm_up (v_F_readLine 41 (by decide) (by decide)) rfl) (vm_kc (vm_up (v_F_readLine 39 (by decide) (by decide)) rfl) (vm_kc (vm_up (v_F_readLine 37 (by decide) (by decide)) rfl) (vm_kc (vm_up (v_F_readLine 35 (by decide) (by decide)) rfl) (vm_kc (vm_up (v_F_readLine 33 (by decide) (by decide)) rfl) (vm_kc (vm_up (v_F_readLine 31 (by decide) (by decide)) rfl) (vm_kc (vm_up (v_F_readLine 29 (by decide) (by decide)) rfl) (vm_kc (vm_up (v_F_readLine 27 (by decide) (by decide)) rfl) (vm_kc (vm_up (v_F_readLine 25 (by decide) (by decide)) rfl) (vm_kc (vm_up (v_F_readLine 23 (by decide) (by decide)) rfl) (vm_kc (vm_up (v_F_readLine 21 (by decide) (by decide)) rfl) (vm_kc (vm_up (v_F_readLine 19 (by decide) (by decide)) rfl) (vm_kc (vm_up (v_F_readLine 17 (by decide) (by decide)) rfl) (vm_kc (vm_up (v_F_readLine 15 (by decide) (by decide)) rfl) (vm_kc (vm_up (v_F_readLine 13 (by decide) (by decide)) rfl) (vm_kc (vm_up (v_F_readLine 11 (by decide) (by decide)) rfl) (vm_kc (vm_up (v_F_readLine 9 (by decide) (by decide)) rfl) (vm_kc (vm_up (v_F_readLine 7 (by decide) (by decide)) rfl) (vm_kc (vm_up (v_F_readLine 5 (by decide) (by decide)) rfl) (vm_kc (vm_up (v_F_readLine 3 (by decide) (by decide)) rfl) (vm_kc (vm_up (v_F_readLine 1 (by decide) (by decide)) rfl) vm_kn))))))))))))))))))))))))))))))))))))))))))))))))))))))))))))))))))))))))))))))))))))) (by decide +kernel)
theorem v_6650 : vm_at 8 q_6650 := vm_ok (inl := []) (es := ve_6650) bq_151 (by decide) vw_6650 vy_6650 (fun i => vm_hc vx_6650_34 rfl (vm_hc vx_6650_33 rfl (vm_hc vx_6650_32 rfl (vm_hc vx_6650_31 rfl (vm_hc vx_6650_30 rfl (vm_hc vx_6650_29 rfl (vm_hc vx_6650_28 rfl (vm_hc vx_6650_27 rfl (vm_hc vx_6650_26 rfl (vm_hc vx_6650_25 rfl (vm_hc vx_6650_24 rfl (vm_hc vx_6650_23 rfl (vm_hc vx_6650_22 rfl (vm_hc vx_6650_21 rfl (vm_hc vx_6650_20 rfl (vm_hc vx_6650_19 rfl (vm_hc vx_6650_18 rfl (vm_hc vx_6650_17 rfl (vm_hc vx_6650_16 rfl (vm_hc vx_6650_15 rfl (vm_hc vx_6650_14 rfl (vm_hc vx_6650_13 rfl (vm_hc vx_6650_12 rfl (vm_hc vx_6650_11 rfl (vm_hc vx_6650_10 rfl (vm_hc vx_6650_9 rfl (vm_hc vx_6650_8 rfl (vm_hc vx_6650_7 rfl (vm_hc vx_6650_6 rfl (vm_hc vx_6650_5 rfl (vm_hc vx_6650_4 rfl (vm_hc vx_6650_3 rfl (vm_hc vx_6650_2 rfl (vm_hc vx_6650_1 rfl (vm_hc vx_6650_0 rfl (fun h => absurd h (Nat.not_lt_zero _))))))))))))))))))))))))))))))))))))) _ List.mem_cons_self
