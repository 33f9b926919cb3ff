/-! BOTH SIDES of the calls that search. -/
theorem pr_stuck (g : qM) (u : qW) (h : w_R g) : w_2 66 190 [] g u := by
  obtain ⟨n, W, H, z, h⟩ := h
  have h5 := h.n5
  have h25 := h.wh
  have ok := h.ok
  have cs := h.cs
  have hgo := h.hgo
  obtain ⟨hn, hW, hH⟩ := h.1
  have hn2 : g 20 3 = Int32.ofNat n := h.2.1.1.2.2.2.1
  have hW2 : g 20 0 = Int32.ofNat W := h.2.1.1.1
  have hH2 : g 20 1 = Int32.ofNat H := h.2.1.1.2.1
  exact w_2s h (c_stuck u ok cs) (fun g1 u1 e => r_stuck u1 ok (w_sms h5 e).1 h5)
theorem pr_strain (g : qM) (u : qW) (h : w_R g) : w_2 74 195 [] g u := by
  obtain ⟨n, W, H, z, h⟩ := h
  have h5 := h.n5
  have h25 := h.wh
  have ok := h.ok
  have cs := h.cs
  have hgo := h.hgo
  obtain ⟨hn, hW, hH⟩ := h.1
  have hn2 : g 20 3 = Int32.ofNat n := h.2.1.1.2.2.2.1
  have hW2 : g 20 0 = Int32.ofNat W := h.2.1.1.1
  have hH2 : g 20 1 = Int32.ofNat H := h.2.1.1.2.1
  exact w_2s h (c_strain u ok cs) (fun g1 u1 e => r_strain u1 ok (w_sms h5 e).1 h5)
theorem pr_rest (g : qM) (u : qW) (h : w_R g) : w_2 81 199 [] g u := by
  obtain ⟨n, W, H, z, h⟩ := h
  have h5 := h.n5
  have h25 := h.wh
  have ok := h.ok
  have cs := h.cs
  have hgo := h.hgo
  obtain ⟨hn, hW, hH⟩ := h.1
  have hn2 : g 20 3 = Int32.ofNat n := h.2.1.1.2.2.2.1
  have hW2 : g 20 0 = Int32.ofNat W := h.2.1.1.1
  have hH2 : g 20 1 = Int32.ofNat H := h.2.1.1.2.1
  exact w_2s h (c_rest u ok cs) (fun g1 u1 e => r_rest u1 ok (w_sms h5 e).1 h5)
theorem pr_out (g : qM) (u : qW) (h : w_R g) : w_2 101 206 [] g u := by
  obtain ⟨n, W, H, z, h⟩ := h
  have h5 := h.n5
  have h25 := h.wh
  have ok := h.ok
  have cs := h.cs
  have hgo := h.hgo
  obtain ⟨hn, hW, hH⟩ := h.1
  have hn2 : g 20 3 = Int32.ofNat n := h.2.1.1.2.2.2.1
  have hW2 : g 20 0 = Int32.ofNat W := h.2.1.1.1
  have hH2 : g 20 1 = Int32.ofNat H := h.2.1.1.2.1
  exact w_2s h (c_out u ok cs) (fun g1 u1 e => r_out u1 ok (w_sms h5 e).1 h5)
theorem pr_force (x y : Int32) (g : qM) (u : qW) (h : w_R g) : w_2 56 183 [.int x, .int y] g u := by
  obtain ⟨n, W, H, z, h⟩ := h
  have h5 := h.n5
  have h25 := h.wh
  have ok := h.ok
  have cs := h.cs
  have hgo := h.hgo
  obtain ⟨hn, hW, hH⟩ := h.1
  have hn2 : g 20 3 = Int32.ofNat n := h.2.1.1.2.2.2.1
  have hW2 : g 20 0 = Int32.ofNat W := h.2.1.1.1
  have hH2 : g 20 1 = Int32.ofNat H := h.2.1.1.2.1
  by_cases hb : v_one n x ∧ v_rg 0 1 y
  · obtain ⟨⟨p, hp, rfl⟩, m, m0, m1, rfl⟩ := hb
    rcases (show m = 0 ∨ m = 1 by omega) with e | e
    · subst e
      exact w_2s h (c_force0 u ok cs hp) (fun g1 u1 e => r_force0 u1 ok (w_sms h5 e).1 h5 hp)
    · subst e
      exact w_2s h (c_force1 u ok cs hp) (fun g1 u1 e => r_force1 u1 ok (w_sms h5 e).1 h5 hp)
  · exact w_2n h (cb_force g u hn2 hW2 hH2 (by omega) h25 x y hb) (rb_force g u hn hW hH (by omega) h25 x y hb)
theorem pr_wish (x : Int32) (g : qM) (u : qW) (h : w_R g) : w_2 65 188 [.int x] g u := by
  obtain ⟨n, W, H, z, h⟩ := h
  have h5 := h.n5
  have h25 := h.wh
  have ok := h.ok
  have cs := h.cs
  have hgo := h.hgo
  obtain ⟨hn, hW, hH⟩ := h.1
  have hn2 : g 20 3 = Int32.ofNat n := h.2.1.1.2.2.2.1
  have hW2 : g 20 0 = Int32.ofNat W := h.2.1.1.1
  have hH2 : g 20 1 = Int32.ofNat H := h.2.1.1.2.1
  by_cases hb : v_one n x
  · obtain ⟨p, hp, rfl⟩ := hb
    exact w_2s h (c_wish u ok cs hp) (fun g1 u1 e => r_wish u1 ok (w_sms h5 e).1 h5 hp)
  · exact w_2n h (cb_wish g u hn2 hW2 hH2 (by omega) h25 x hb) (rb_wish g u hn hW hH (by omega) h25 x hb)
theorem pr_ahead (x y z : Int32) (g : qM) (u : qW) (h : w_R g) : w_2 79 198 [.int x, .int y, .int z] g u := by
  obtain ⟨n, W, H, zz, h⟩ := h
  have h5 := h.n5
  have h25 := h.wh
  have ok := h.ok
  have cs := h.cs
  have hgo := h.hgo
  obtain ⟨hn, hW, hH⟩ := h.1
  have hn2 : g 20 3 = Int32.ofNat n := h.2.1.1.2.2.2.1
  have hW2 : g 20 0 = Int32.ofNat W := h.2.1.1.1
  have hH2 : g 20 1 = Int32.ofNat H := h.2.1.1.2.1
  by_cases hb : v_one n x ∧ v_rg 0 60 y ∧ v_rg 0 1 z
  · obtain ⟨⟨p, hp, rfl⟩, ⟨t, t0, t1, rfl⟩, m, m0, m1, rfl⟩ := hb
    rcases (show m = 0 ∨ m = 1 by omega) with e | e
    · subst e
      exact w_2s h (c_ahead0 u ok cs t1 hp) (fun g1 u1 e => r_ahead0 u1 ok (w_sms h5 e).1 h5 t1 hp)
    · subst e
      exact w_2s h (c_ahead1 u ok cs t1 hp) (fun g1 u1 e => r_ahead1 u1 ok (w_sms h5 e).1 h5 t1 hp)
  · exact w_2n h (cb_ahead g u hn2 hW2 hH2 (by omega) h25 x y z hb) (rb_ahead g u hn hW hH (by omega) h25 x y z hb)
theorem pr_again (x : Int32) (g : qM) (u : qW) (h : w_R g) : w_2 84 200 [.int x] g u := by
  obtain ⟨n, W, H, z, h⟩ := h
  have h5 := h.n5
  have h25 := h.wh
  have ok := h.ok
  have cs := h.cs
  have hgo := h.hgo
  obtain ⟨hn, hW, hH⟩ := h.1
  have hn2 : g 20 3 = Int32.ofNat n := h.2.1.1.2.2.2.1
  have hW2 : g 20 0 = Int32.ofNat W := h.2.1.1.1
  have hH2 : g 20 1 = Int32.ofNat H := h.2.1.1.2.1
  by_cases hb : v_rg 0 1 x
  · obtain ⟨m, m0, m1, rfl⟩ := hb
    rcases (show m = 0 ∨ m = 1 by omega) with e | e
    · subst e
      exact w_2s h (c_again0 u ok cs) (fun g1 u1 e => r_again0 u1 ok (w_sms h5 e).1 h5)
    · subst e
      exact w_2s h (c_again1 u ok cs) (fun g1 u1 e => r_again1 u1 ok (w_sms h5 e).1 h5)
  · exact w_2n h (cb_again g u hn2 hW2 hH2 (by omega) h25 x hb) (rb_again g u hn hW hH (by omega) h25 x hb)
theorem pr_calm (x : Int32) (g : qM) (u : qW) (h : w_R g) : w_2 104 207 [.int x] g u := by
  obtain ⟨n, W, H, z, h⟩ := h
  have h5 := h.n5
  have h25 := h.wh
  have ok := h.ok
  have cs := h.cs
  have hgo := h.hgo
  obtain ⟨hn, hW, hH⟩ := h.1
  have hn2 : g 20 3 = Int32.ofNat n := h.2.1.1.2.2.2.1
  have hW2 : g 20 0 = Int32.ofNat W := h.2.1.1.1
  have hH2 : g 20 1 = Int32.ofNat H := h.2.1.1.2.1
  by_cases hb : v_one n x
  · obtain ⟨p, hp, rfl⟩ := hb
    exact w_2s h (c_calm u ok cs hp) (fun g1 u1 e => r_calm u1 ok (w_sms h5 e).1 h5 hp)
  · exact w_2n h (cb_calm g u hn2 hW2 hH2 (by omega) h25 x hb) (rb_calm g u hn hW hH (by omega) h25 x hb)
theorem pr_hang (x y w : Int32) (g : qM) (u : qW) (h : w_R g) : w_2 110 209 [.int x, .int y, .int w] g u := by
  obtain ⟨n, W, H, z, h⟩ := h
  have h5 := h.n5
  have h25 := h.wh
  have ok := h.ok
  have cs := h.cs
  have hgo := h.hgo
  obtain ⟨hn, hW, hH⟩ := h.1
  have hn2 : g 20 3 = Int32.ofNat n := h.2.1.1.2.2.2.1
  have hW2 : g 20 0 = Int32.ofNat W := h.2.1.1.1
  have hH2 : g 20 1 = Int32.ofNat H := h.2.1.1.2.1
  by_cases hb : v_rg 1 3 x ∧ v_rg 0 12 y ∧ v_rg 0 1 w
  · obtain ⟨⟨k, k0, k1, rfl⟩, ⟨t, t0, t1, rfl⟩, m, m0, m1, rfl⟩ := hb
    rcases (show m = 0 ∨ m = 1 by omega) with e | e
    · subst e
      exact w_2s h (c_hang0 u ok cs h5 ⟨k0, k1⟩ t1 hgo) (fun g1 u1 e => r_hang0 u1 ok (w_sms h5 e).1 h5 ⟨k0, k1⟩ t1 (w_sms h5 e).2.1)
    · subst e
      exact w_2s h (c_hang1 u ok cs h5 ⟨k0, k1⟩ t1 hgo) (fun g1 u1 e => r_hang1 u1 ok (w_sms h5 e).1 h5 ⟨k0, k1⟩ t1 (w_sms h5 e).2.1)
  · exact w_2n h (cb_hang g u hn2 hW2 hH2 (by omega) h25 x y w hb) (rb_hang g u hn hW hH (by omega) h25 x y w hb)
theorem pr_odds (x y w : Int32) (g : qM) (u : qW) (h : w_R g) : w_2l 112 210 [.int x, .int y, .int w] g u := by
  obtain ⟨n, W, H, z, h⟩ := h
  have h5 := h.n5
  have h25 := h.wh
  have ok := h.ok
  have cs := h.cs
  have hgo := h.hgo
  obtain ⟨hn, hW, hH⟩ := h.1
  have hn2 : g 20 3 = Int32.ofNat n := h.2.1.1.2.2.2.1
  have hW2 : g 20 0 = Int32.ofNat W := h.2.1.1.1
  have hH2 : g 20 1 = Int32.ofNat H := h.2.1.1.2.1
  by_cases hb : v_rg 0 10 x ∧ v_rg 0 12 y ∧ v_rg 0 1 w
  · obtain ⟨⟨k, k0, k1, rfl⟩, ⟨t, t0, t1, rfl⟩, m, m0, m1, rfl⟩ := hb
    rcases (show m = 0 ∨ m = 1 by omega) with e | e
    · subst e
      exact w_2sl h (c_odds0 u ok cs k1 t1 hgo) (fun g1 u1 e => r_odds0 u1 ok (w_sms h5 e).1 h5 k1 t1 (w_sms h5 e).2.1)
    · subst e
      exact w_2sl h (c_odds1 u ok cs k1 t1 hgo) (fun g1 u1 e => r_odds1 u1 ok (w_sms h5 e).1 h5 k1 t1 (w_sms h5 e).2.1)
  · exact w_2nl h (cb_odds g u hn2 hW2 hH2 (by omega) h25 x y w hb) (rb_odds g u hn hW hH (by omega) h25 x y w hb)
theorem pr_nurse (x y v w : Int32) (g : qM) (u : qW) (h : w_R g) : w_2 106 208 [.int x, .int y, .int v, .int w] g u := by
  obtain ⟨n, W, H, z, h⟩ := h
  have h5 := h.n5
  have h25 := h.wh
  have ok := h.ok
  have cs := h.cs
  have hgo := h.hgo
  obtain ⟨hn, hW, hH⟩ := h.1
  have hn2 : g 20 3 = Int32.ofNat n := h.2.1.1.2.2.2.1
  have hW2 : g 20 0 = Int32.ofNat W := h.2.1.1.1
  have hH2 : g 20 1 = Int32.ofNat H := h.2.1.1.2.1
  by_cases hb : v_one n x ∧ v_one n y ∧ v_one n v ∧ x ≠ y ∧ x ≠ v ∧ y ≠ v ∧ v_nw w
  · obtain ⟨⟨p, hp, rfl⟩, ⟨a, ha, rfl⟩, ⟨b, hb, rfl⟩, e1, e2, e3, hw⟩ := hb
    have n1 : p ≠ a := fun y => e1 (by rw [y])
    have n2 : p ≠ b := fun y => e2 (by rw [y])
    have n3 : a ≠ b := fun y => e3 (by rw [y])
    rcases hw with rfl | ⟨m, m0, m1, rfl⟩
    · exact w_2s h (c_nurse0 u ok cs hp ha hb n1 n2 n3) (fun g1 u1 e => r_nurse0 u1 ok (w_sms h5 e).1 h5 hp ha hb n1 n2 n3)
    · rcases (show m = 10 ∨ m = 11 ∨ m = 12 ∨ m = 13 by omega) with e | e | e | e
      · subst e
        exact w_2s h (c_nurse10 u ok cs hp ha hb n1 n2 n3) (fun g1 u1 e => r_nurse10 u1 ok (w_sms h5 e).1 h5 hp ha hb n1 n2 n3)
      · subst e
        exact w_2s h (c_nurse11 u ok cs hp ha hb n1 n2 n3) (fun g1 u1 e => r_nurse11 u1 ok (w_sms h5 e).1 h5 hp ha hb n1 n2 n3)
      · subst e
        exact w_2s h (c_nurse12 u ok cs hp ha hb n1 n2 n3) (fun g1 u1 e => r_nurse12 u1 ok (w_sms h5 e).1 h5 hp ha hb n1 n2 n3)
      · subst e
        exact w_2s h (c_nurse13 u ok cs hp ha hb n1 n2 n3) (fun g1 u1 e => r_nurse13 u1 ok (w_sms h5 e).1 h5 hp ha hb n1 n2 n3)
  · exact w_2n h (cb_nurse g u hn2 hW2 hH2 (by omega) h25 x y v w hb) (rb_nurse g u hn hW hH (by omega) h25 x y v w hb)
theorem pr_setting (x y : Int32) (g : qM) (u : qW) (h : w_R g) : w_2 89 201 [.int x, .int y] g u := by
  obtain ⟨n, W, H, z, h⟩ := h
  have h5 := h.n5
  have h25 := h.wh
  have ok := h.ok
  have cs := h.cs
  have hgo := h.hgo
  obtain ⟨hn, hW, hH⟩ := h.1
  have hn2 : g 20 3 = Int32.ofNat n := h.2.1.1.2.2.2.1
  have hW2 : g 20 0 = Int32.ofNat W := h.2.1.1.1
  have hH2 : g 20 1 = Int32.ofNat H := h.2.1.1.2.1
  by_cases hb : v_rg 0 12 x ∧ v_tot n y
  · obtain ⟨⟨m, m0, m1, rfl⟩, hy⟩ := hb
    rcases hy with rfl | ⟨p, hp, rfl⟩
    · exact w_2s h (c_set0 u ok cs m1 hgo) (fun g1 u1 e => r_set0 u1 ok (w_sms h5 e).1 h5 m1 (w_sms h5 e).2.1)
    · exact w_2s h (c_set1 u ok cs m1 hgo hp) (fun g1 u1 e => r_set1 u1 ok (w_sms h5 e).1 h5 m1 (w_sms h5 e).2.1 hp)
  · exact w_2n h (cb_setting g u hn2 hW2 hH2 (by omega) h25 x y hb) (rb_setting g u hn hW hH (by omega) h25 x y hb)
theorem w_R4.se {n W H z : Nat} {g : qM} (h : w_R4 n W H z g) : w_se n z (s_start g) := ⟨h.2.1.1.2.2.2.2.2.2.2, h.2.1.2.1.2.2.2.2.2, fun k hk => by
  obtain ⟨q, hq, e⟩ := (h.2.1.2.2.2.2.2.1 k hk).2.2
  exact ⟨q, hq, ((h.2.1.2.2.2.2.2.1 k hk).1.symm.trans e)⟩⟩
theorem w_R4.sc {n W H z : Nat} {g : qM} (h : w_R4 n W H z g) : w_sc 20 z g (s_start g) := ⟨h.2.1.1.2.2.2.2.2.2.1, fun k hk => ⟨(h.2.1.2.2.2.2.2.1 k hk).1, (h.2.1.2.2.2.2.2.1 k hk).2.1⟩⟩
theorem pr_moods (x : Int32) (g : qM) (u : qW) (h : w_R g) : w_2 120 214 [.int x] g u := by
  obtain ⟨n, W, H, z, h⟩ := h
  have h5 := h.n5
  have h25 := h.wh
  have ok := h.ok
  have cs := h.cs
  have hgo := h.hgo
  obtain ⟨hn, hW, hH⟩ := h.1
  have hn2 : g 20 3 = Int32.ofNat n := h.2.1.1.2.2.2.1
  have hW2 : g 20 0 = Int32.ofNat W := h.2.1.1.1
  have hH2 : g 20 1 = Int32.ofNat H := h.2.1.1.2.1
  by_cases hb : v_tot n x
  · rcases hb with rfl | ⟨p, hp, rfl⟩
    · exact w_2s h (c_moods0 u ok cs h.se h.sc) (fun g1 u1 e => r_moods0 u1 ok (w_sms h5 e).1 h5 h.se (w_sms h5 e).2.2.1)
    · exact w_2s h (c_moods1 u ok cs h.se h.sc hp) (fun g1 u1 e => r_moods1 u1 ok (w_sms h5 e).1 h5 h.se (w_sms h5 e).2.2.1 hp)
  · exact w_2n h (cb_moods g u hn2 hW2 hH2 (by omega) h25 x hb) (rb_moods g u hn hW hH (by omega) h25 x hb)
theorem pr_crowd (x y : Int32) (g : qM) (u : qW) (h : w_R g) : w_2 125 215 [.int x, .int y] g u := by
  obtain ⟨n, W, H, z, h⟩ := h
  have h5 := h.n5
  have h25 := h.wh
  have ok := h.ok
  have cs := h.cs
  have hgo := h.hgo
  obtain ⟨hn, hW, hH⟩ := h.1
  have hn2 : g 20 3 = Int32.ofNat n := h.2.1.1.2.2.2.1
  have hW2 : g 20 0 = Int32.ofNat W := h.2.1.1.1
  have hH2 : g 20 1 = Int32.ofNat H := h.2.1.1.2.1
  by_cases hb : v_rg 1 60 y
  · obtain ⟨m, m0, m1, rfl⟩ := hb
    by_cases hz : n = 0
    · subst hz
      exact w_2n h (c_crowd0 g u hn2 m1 m0) (r_crowd0 g u hn m1 m0)
    · exact w_2s h (c_crowd1 u ok cs m1 (by omega) m0) (fun g1 u1 e => r_crowd1 u1 ok (w_sms h5 e).1 h5 m1 m0 (by omega))
  · exact w_2n h (cb_crowd g u hn2 hW2 hH2 (by omega) h25 x y hb) (rb_crowd g u hn hW hH (by omega) h25 x y hb)
theorem pr_cell (x : Int32) (g : qM) (u : qW) (h : w_R g) : w_2 46 170 [.int x] g u := by
  obtain ⟨n, W, H, z, h⟩ := h
  have h5 := h.n5
  have h25 := h.wh
  have ok := h.ok
  have cs := h.cs
  have hgo := h.hgo
  obtain ⟨hn, hW, hH⟩ := h.1
  have hn2 : g 20 3 = Int32.ofNat n := h.2.1.1.2.2.2.1
  have hW2 : g 20 0 = Int32.ofNat W := h.2.1.1.1
  have hH2 : g 20 1 = Int32.ofNat H := h.2.1.1.2.1
  by_cases hb : v_one (W * H) x
  · obtain ⟨c, hc, rfl⟩ := hb
    have hN2 : g 20 0 * g 20 1 = Int32.ofNat (W * H) := by rw [hW2, hH2, q_mul]
    have hN : g 70 2 * g 70 3 = Int32.ofNat (W * H) := by rw [hW, hH, q_mul]
    have q1 := cg_cell g u hn2 (by omega) hN2 h25 hc
    rw [show s_w1 (g 21) (Int32.ofNat c) n 0 = f_who n (s_start g) (Int32.ofNat c) from w_who_c cs _] at q1
    exact ⟨_, _, _, _, _, q1, rg_cell u ok (w_sms0 h5).1 hn h5 hN h25 hc, n, W, H, z, h.fr s_start_fr⟩
  · exact w_2n h (cb_cell g u hn2 hW2 hH2 (by omega) h25 x hb) (rb_cell g u hn hW hH (by omega) h25 x hb)
