section
/-! BOTH SIDES of the calls that search. -/
theorem pr_stuck (g : qM) (u : qW) (h : w_R g) : w_2 66 190 [] g u := by
  obtain ⟨n, W, H, z, h⟩ := h
  have h5 := h.n5
  have h25 := h.wh
  have ok := h.ok
  have cs := h.cs
  have hgo := h.hgo
  obtain ⟨hn, hW, hH⟩ := h.1
  have hn2 : g 20 3 = Int32.ofNat n := h.2.1.1.2.2.2.1
  have hW2 : g 20 0 = Int32.ofNat W := h.2.1.1.1
  have hH2 : g 20 1 = Int32.ofNat H := h.2.1.1.2.1
  exact w_2s h (c_stuck u ok cs) (fun g1 u1 e => r_stuck u1 ok (w_sms h5 e).1 h5)
theorem pr_strain (g : qM) (u : qW) (h : w_R g) : w_2 74 195 [] g u := by
  obtain ⟨n, W, H, z, h⟩ := h
  have h5 := h.n5
  have h25 := h.wh
  have ok := h.ok
  have cs := h.cs
  have hgo := h.hgo
  obtain ⟨hn, hW, hH⟩ := h.1
  have hn2 : g 20 3 = Int32.ofNat n := h.2.1.1.2.2.2.1
  have hW2 : g 20 0 = Int32.ofNat W := h.2.1.1.1
  have hH2 : g 20 1 = Int32.ofNat H := h.2.1.1.2.1
  exact w_2s h (c_strain u ok cs) (fun g1 u1 e => r_strain u1 ok (w_sms h5 e).1 h5)
theorem pr_rest (g : qM) (u : qW) (h : w_R g) : w_2 81 199 [] g u := by
  obtain ⟨n, W, H, z, h⟩ := h
  have h5 := h.n5
  have h25 := h.wh
  have ok := h.ok
  have cs := h.cs
  have hgo := h.hgo
  obtain ⟨hn, hW, hH⟩ := h.1
  have hn2 : g 20 3 = Int32.ofNat n := h.2.1.1.2.2.2.1
  have hW2 : g 20 0 = Int32.ofNat W := h.2.1.1.1
  have hH2 : g 20 1 = Int32.ofNat H := h.2.1.1.2.1
  exact w_2s h (c_rest u ok cs) (fun g1 u1 e => r_rest u1 ok (w_sms h5 e).1 h5)
theorem pr_out (g : qM) (u : qW) (h : w_R g) : w_2 101 206 [] g u := by
  obtain ⟨n, W, H, z, h⟩ := h
  have h5 := h.n5
  have h25 := h.wh
  have ok := h.ok
  have cs := h.cs
  have hgo := h.hgo
  obtain ⟨hn, hW, hH⟩ := h.1
  have hn2 : g 20 3 = Int32.ofNat n := h.2.1.1.2.2.2.1
  have hW2 : g 20 0 = Int32.ofNat W := h.2.1.1.1
  have hH2 : g 20 1 = Int32.ofNat H := h.2.1.1.2.1
  exact w_2s h (c_out u ok cs) (fun g1 u1 e => r_out u1 ok (w_sms h5 e).1 h5)
theorem pr_force (x y : Int32) (g : qM) (u : qW) (h : w_R g) : w_2 56 183 [.int x, .int y] g u := by
  obtain ⟨n, W, H, z, h⟩ := h
  have h5 := h.n5
  have h25 := h.wh
  have ok := h.ok
  have cs := h.cs
  have hgo := h.hgo
  obtain ⟨hn, hW, hH⟩ := h.1
  have hn2 : g 20 3 = Int32.ofNat n := h.2.1.1.2.2.2.1
  have hW2 : g 20 0 = Int32.ofNat W := h.2.1.1.1
  have hH2 : g 20 1 = Int32.ofNat H := h.2.1.1.2.1
  by_cases hb : v_one n x ∧ v_rg 0 1 y
  · obtain ⟨⟨p, hp, rfl⟩, m, m0, m1, rfl⟩ := hb
    rcases (show m = 0 ∨ m = 1 by omega) with e | e
    · subst e
      exact w_2s h (c_force0 u ok cs hp) (fun g1 u1 e => r_force0 u1 ok (w_sms h5 e).1 h5 hp)
    · subst e
      exact w_2s h (c_force1 u ok cs hp) (fun g1 u1 e => r_force1 u1 ok (w_sms h5 e).1 h5 hp)
  · exact w_2n h (cb_force g u hn2 hW2 hH2 (by omega) h25 x y hb) (rb_force g u hn hW hH (by omega) h25 x y hb)
theorem pr_wish (x : Int32) (g : qM) (u : qW) (h : w_R g) : w_2 65 188 [.int x] g u := by
  obtain ⟨n, W, H, z, h⟩ := h
  have h5 := h.n5
  have h25 := h.wh
  have ok := h.ok
  have cs := h.cs
  have hgo := h.hgo
  obtain ⟨hn, hW, hH⟩ := h.1
  have hn2 : g 20 3 = Int32.ofNat n := h.2.1.1.2.2.2.1
  have hW2 : g 20 0 = Int32.ofNat W := h.2.1.1.1
  have hH2 : g 20 1 = Int32.ofNat H := h.2.1.1.2.1
  by_cases hb : v_one n x
  · obtain ⟨p, hp, rfl⟩ := hb
    exact w_2s h (c_wish u ok cs hp) (fun g1 u1 e => r_wish u1 ok (w_sms h5 e).1 h5 hp)
  · exact w_2n h (cb_wish g u hn2 hW2 hH2 (by omega) h25 x hb) (rb_wish g u hn hW hH (by omega) h25 x hb)
theorem pr_ahead (x y z : Int32) (g : qM) (u : qW) (h : w_R g) : w_2 79 198 [.int x, .int y, .int z] g u := by
  obtain ⟨n, W, H, zz, h⟩ := h
  have h5 := h.n5
  have h25 := h.wh
  have ok := h.ok
  have cs := h.cs
  have hgo := h.hgo
  obtain ⟨hn, hW, hH⟩ := h.1
  have hn2 : g 20 3 = Int32.ofNat n := h.2.1.1.2.2.2.1
  have hW2 : g 20 0 = Int32.ofNat W := h.2.1.1.1
  have hH2 : g 20 1 = Int32.ofNat H := h.2.1.1.2.1
  by_cases hb : v_one n x ∧ v_rg 0 60 y ∧ v_rg 0 1 z
  · obtain ⟨⟨p, hp, rfl⟩, ⟨t, t0, t1, rfl⟩, m, m0, m1, rfl⟩ := hb
    rcases (show m = 0 ∨ m = 1 by omega) with e | e
    · subst e
      exact w_2s h (c_ahead0 u ok cs t1 hp) (fun g1 u1 e => r_ahead0 u1 ok (w_sms h5 e).1 h5 t1 hp)
    · subst e
      exact w_2s h (c_ahead1 u ok cs t1 hp) (fun g1 u1 e => r_ahead1 u1 ok (w_sms h5 e).1 h5 t1 hp)
  · exact w_2n h (cb_ahead g u hn2 hW2 hH2 (by omega) h25 x y z hb) (rb_ahead g u hn hW hH (by omega) h25 x y z hb)
theorem pr_again (x : Int32) (g : qM) (u : qW) (h : w_R g) : w_2 84 200 [.int x] g u := by
  obtain ⟨n, W, H, z, h⟩ := h
  have h5 := h.n5
  have h25 := h.wh
  have ok := h.ok
  have cs := h.cs
  have hgo := h.hgo
  obtain ⟨hn, hW, hH⟩ := h.1
  have hn2 : g 20 3 = Int32.ofNat n := h.2.1.1.2.2.2.1
  have hW2 : g 20 0 = Int32.ofNat W := h.2.1.1.1
  have hH2 : g 20 1 = Int32.ofNat H := h.2.1.1.2.1
  by_cases hb : v_rg 0 1 x
  · obtain ⟨m, m0, m1, rfl⟩ := hb
    rcases (show m = 0 ∨ m = 1 by omega) with e | e
    · subst e
      exact w_2s h (c_again0 u ok cs) (fun g1 u1 e => r_again0 u1 ok (w_sms h5 e).1 h5)
    · subst e
      exact w_2s h (c_again1 u ok cs) (fun g1 u1 e => r_again1 u1 ok (w_sms h5 e).1 h5)
  · exact w_2n h (cb_again g u hn2 hW2 hH2 (by omega) h25 x hb) (rb_again g u hn hW hH (by omega) h25 x hb)
theorem pr_calm (x : Int32) (g : qM) (u : qW) (h : w_R g) : w_2 104 207 [.int x] g u := by
  obtain ⟨n, W, H, z, h⟩ := h
  have h5 := h.n5
  have h25 := h.wh
  have ok := h.ok
  have cs := h.cs
  have hgo := h.hgo
  obtain ⟨hn, hW, hH⟩ := h.1
  have hn2 : g 20 3 = Int32.ofNat n := h.2.1.1.2.2.2.1
  have hW2 : g 20 0 = Int32.ofNat W := h.2.1.1.1
  have hH2 : g 20 1 = Int32.ofNat H := h.2.1.1.2.1
  by_cases hb : v_one n x
  · obtain ⟨p, hp, rfl⟩ := hb
    exact w_2s h (c_calm u ok cs hp) (fun g1 u1 e => r_calm u1 ok (w_sms h5 e).1 h5 hp)
  · exact w_2n h (cb_calm g u hn2 hW2 hH2 (by omega) h25 x hb) (rb_calm g u hn hW hH (by omega) h25 x hb)
theorem pr_hang (x y w : Int32) (g : qM) (u : qW) (h : w_R g) : w_2 110 209 [.int x, .int y, .int w] g u := by
  obtain ⟨n, W, H, z, h⟩ := h
  have h5 := h.n5
  have h25 := h.wh
  have ok := h.ok
  have cs := h.cs
  have hgo := h.hgo
  obtain ⟨hn, hW, hH⟩ := h.1
  have hn2 : g 20 3 = Int32.ofNat n := h.2.1.1.2.2.2.1
  have hW2 : g 20 0 = Int32.ofNat W := h.2.1.1.1
  have hH2 : g 20 1 = Int32.ofNat H := h.2.1.1.2.1
  by_cases hb : v_rg 1 3 x ∧ v_rg 0 12 y ∧ v_rg 0 1 w
  · obtain ⟨⟨k, k0, k1, rfl⟩, ⟨t, t0, t1, rfl⟩, m, m0, m1, rfl⟩ := hb
    rcases (show m = 0 ∨ m = 1 by omega) with e | e
    · subst e
      exact w_2s h (c_hang0 u ok cs h5 ⟨k0, k1⟩ t1 hgo) (fun g1 u1 e => r_hang0 u1 ok (w_sms h5 e).1 h5 ⟨k0, k1⟩ t1 (w_sms h5 e).2.1)
    · subst e
      exact w_2s h (c_hang1 u ok cs h5 ⟨k0, k1⟩ t1 hgo) (fun g1 u1 e => r_hang1 u1 ok (w_sms h5 e).1 h5 ⟨k0, k1⟩ t1 (w_sms h5 e).2.1)
  · exact w_2n h (cb_hang g u hn2 hW2 hH2 (by omega) h25 x y w hb) (rb_hang g u hn hW hH (by omega) h25 x y w hb)
theorem pr_odds (x y w : Int32) (g : qM) (u : qW) (h : w_R g) : w_2l 112 210 [.int x, .int y, .int w] g u := by
  obtain ⟨n, W, H, z, h⟩ := h
  have h5 := h.n5
  have h25 := h.wh
  have ok := h.ok
  have cs := h.cs
  have hgo := h.hgo
  obtain ⟨hn, hW, hH⟩ := h.1
  have hn2 : g 20 3 = Int32.ofNat n := h.2.1.1.2.2.2.1
  have hW2 : g 20 0 = Int32.ofNat W := h.2.1.1.1
  have hH2 : g 20 1 = Int32.ofNat H := h.2.1.1.2.1
  by_cases hb : v_rg 0 10 x ∧ v_rg 0 12 y ∧ v_rg 0 1 w
  · obtain ⟨⟨k, k0, k1, rfl⟩, ⟨t, t0, t1, rfl⟩, m, m0, m1, rfl⟩ := hb
    rcases (show m = 0 ∨ m = 1 by omega) with e | e
    · subst e
      exact w_2sl h (c_odds0 u ok cs k1 t1 hgo) (fun g1 u1 e => r_odds0 u1 ok (w_sms h5 e).1 h5 k1 t1 (w_sms h5 e).2.1)
    · subst e
      exact w_2sl h (c_odds1 u ok cs k1 t1 hgo) (fun g1 u1 e => r_odds1 u1 ok (w_sms h5 e).1 h5 k1 t1 (w_sms h5 e).2.1)
  · exact w_2nl h (cb_odds g u hn2 hW2 hH2 (by omega) h25 x y w hb) (rb_odds g u hn hW hH (by omega) h25 x y w hb)
theorem pr_nurse (x y v w : Int32) (g : qM) (u : qW) (h : w_R g) : w_2 106 208 [.int x, .int y, .int v, .int w] g u := by
  obtain ⟨n, W, H, z, h⟩ := h
  have h5 := h.n5
  have h25 := h.wh
  have ok := h.ok
  have cs := h.cs
  have hgo := h.hgo
  obtain ⟨hn, hW, hH⟩ := h.1
  have hn2 : g 20 3 = Int32.ofNat n := h.2.1.1.2.2.2.1
  have hW2 : g 20 0 = Int32.ofNat W := h.2.1.1.1
  have hH2 : g 20 1 = Int32.ofNat H := h.2.1.1.2.1
  by_cases hb : v_one n x ∧ v_one n y ∧ v_one n v ∧ x ≠ y ∧ x ≠ v ∧ y ≠ v ∧ v_nw w
  · obtain ⟨⟨p, hp, rfl⟩, ⟨a, ha, rfl⟩, ⟨b, hb, rfl⟩, e1, e2, e3, hw⟩ := hb
    have n1 : p ≠ a := fun y => e1 (by rw [y])
    have n2 : p ≠ b := fun y => e2 (by rw [y])
    have n3 : a ≠ b := fun y => e3 (by rw [y])
    rcases hw with rfl | ⟨m, m0, m1, rfl⟩
    · exact w_2s h (c_nurse0 u ok cs hp ha hb n1 n2 n3) (fun g1 u1 e => r_nurse0 u1 ok (w_sms h5 e).1 h5 hp ha hb n1 n2 n3)
    · rcases (show m = 10 ∨ m = 11 ∨ m = 12 ∨ m = 13 by omega) with e | e | e | e
      · subst e
        exact w_2s h (c_nurse10 u ok cs hp ha hb n1 n2 n3) (fun g1 u1 e => r_nurse10 u1 ok (w_sms h5 e).1 h5 hp ha hb n1 n2 n3)
      · subst e
        exact w_2s h (c_nurse11 u ok cs hp ha hb n1 n2 n3) (fun g1 u1 e => r_nurse11 u1 ok (w_sms h5 e).1 h5 hp ha hb n1 n2 n3)
      · subst e
        exact w_2s h (c_nurse12 u ok cs hp ha hb n1 n2 n3) (fun g1 u1 e => r_nurse12 u1 ok (w_sms h5 e).1 h5 hp ha hb n1 n2 n3)
      · subst e
        exact w_2s h (c_nurse13 u ok cs hp ha hb n1 n2 n3) (fun g1 u1 e => r_nurse13 u1 ok (w_sms h5 e).1 h5 hp ha hb n1 n2 n3)
  · exact w_2n h (cb_nurse g u hn2 hW2 hH2 (by omega) h25 x y v w hb) (rb_nurse g u hn hW hH (by omega) h25 x y v w hb)
theorem pr_setting (x y : Int32) (g : qM) (u : qW) (h : w_R g) : w_2 89 201 [.int x, .int y] g u := by
  obtain ⟨n, W, H, z, h⟩ := h
  have h5 := h.n5
  have h25 := h.wh
  have ok := h.ok
  have cs := h.cs
  have hgo := h.hgo
  obtain ⟨hn, hW, hH⟩ := h.1
  have hn2 : g 20 3 = Int32.ofNat n := h.2.1.1.2.2.2.1
  have hW2 : g 20 0 = Int32.ofNat W := h.2.1.1.1
  have hH2 : g 20 1 = Int32.ofNat H := h.2.1.1.2.1
  by_cases hb : v_rg 0 12 x ∧ v_tot n y
  · obtain ⟨⟨m, m0, m1, rfl⟩, hy⟩ := hb
    rcases hy with rfl | ⟨p, hp, rfl⟩
    · exact w_2s h (c_set0 u ok cs m1 hgo) (fun g1 u1 e => r_set0 u1 ok (w_sms h5 e).1 h5 m1 (w_sms h5 e).2.1)
    · exact w_2s h (c_set1 u ok cs m1 hgo hp) (fun g1 u1 e => r_set1 u1 ok (w_sms h5 e).1 h5 m1 (w_sms h5 e).2.1 hp)
  · exact w_2n h (cb_setting g u hn2 hW2 hH2 (by omega) h25 x y hb) (rb_setting g u hn hW hH (by omega) h25 x y hb)
theorem w_R4.se {n W H z : Nat} {g : qM} (h : w_R4 n W H z g) : w_se n z (s_start g) := ⟨h.2.1.1.2.2.2.2.2.2.2, h.2.1.2.1.2.2.2.2.2, fun k hk => by
  obtain ⟨q, hq, e⟩ := (h.2.1.2.2.2.2.2.1 k hk).2.2
  exact ⟨q, hq, ((h.2.1.2.2.2.2.2.1 k hk).1.symm.trans e)⟩⟩
theorem w_R4.sc {n W H z : Nat} {g : qM} (h : w_R4 n W H z g) : w_sc 20 z g (s_start g) := ⟨h.2.1.1.2.2.2.2.2.2.1, fun k hk => ⟨(h.2.1.2.2.2.2.2.1 k hk).1, (h.2.1.2.2.2.2.2.1 k hk).2.1⟩⟩
theorem pr_moods (x : Int32) (g : qM) (u : qW) (h : w_R g) : w_2 120 214 [.int x] g u := by
  obtain ⟨n, W, H, z, h⟩ := h
  have h5 := h.n5
  have h25 := h.wh
  have ok := h.ok
  have cs := h.cs
  have hgo := h.hgo
  obtain ⟨hn, hW, hH⟩ := h.1
  have hn2 : g 20 3 = Int32.ofNat n := h.2.1.1.2.2.2.1
  have hW2 : g 20 0 = Int32.ofNat W := h.2.1.1.1
  have hH2 : g 20 1 = Int32.ofNat H := h.2.1.1.2.1
  by_cases hb : v_tot n x
  · rcases hb with rfl | ⟨p, hp, rfl⟩
    · exact w_2s h (c_moods0 u ok cs h.se h.sc) (fun g1 u1 e => r_moods0 u1 ok (w_sms h5 e).1 h5 h.se (w_sms h5 e).2.2.1)
    · exact w_2s h (c_moods1 u ok cs h.se h.sc hp) (fun g1 u1 e => r_moods1 u1 ok (w_sms h5 e).1 h5 h.se (w_sms h5 e).2.2.1 hp)
  · exact w_2n h (cb_moods g u hn2 hW2 hH2 (by omega) h25 x hb) (rb_moods g u hn hW hH (by omega) h25 x hb)
theorem pr_crowd (x y : Int32) (g : qM) (u : qW) (h : w_R g) : w_2 125 215 [.int x, .int y] g u := by
  obtain ⟨n, W, H, z, h⟩ := h
  have h5 := h.n5
  have h25 := h.wh
  have ok := h.ok
  have cs := h.cs
  have hgo := h.hgo
  obtain ⟨hn, hW, hH⟩ := h.1
  have hn2 : g 20 3 = Int32.ofNat n := h.2.1.1.2.2.2.1
  have hW2 : g 20 0 = Int32.ofNat W := h.2.1.1.1
  have hH2 : g 20 1 = Int32.ofNat H := h.2.1.1.2.1
  by_cases hb : v_rg 1 60 y
  · obtain ⟨m, m0, m1, rfl⟩ := hb
    by_cases hz : n = 0
    · subst hz
      exact w_2n h (c_crowd0 g u hn2 m1 m0) (r_crowd0 g u hn m1 m0)
    · exact w_2s h (c_crowd1 u ok cs m1 (by omega) m0) (fun g1 u1 e => r_crowd1 u1 ok (w_sms h5 e).1 h5 m1 m0 (by omega))
  · exact w_2n h (cb_crowd g u hn2 hW2 hH2 (by omega) h25 x y hb) (rb_crowd g u hn hW hH (by omega) h25 x y hb)
theorem pr_cell (x : Int32) (g : qM) (u : qW) (h : w_R g) : w_2 46 170 [.int x] g u := by
  obtain ⟨n, W, H, z, h⟩ := h
  have h5 := h.n5
  have h25 := h.wh
  have ok := h.ok
  have cs := h.cs
  have hgo := h.hgo
  obtain ⟨hn, hW, hH⟩ := h.1
  have hn2 : g 20 3 = Int32.ofNat n := h.2.1.1.2.2.2.1
  have hW2 : g 20 0 = Int32.ofNat W := h.2.1.1.1
  have hH2 : g 20 1 = Int32.ofNat H := h.2.1.1.2.1
  by_cases hb : v_one (W * H) x
  · obtain ⟨c, hc, rfl⟩ := hb
    have hN2 : g 20 0 * g 20 1 = Int32.ofNat (W * H) := by rw [hW2, hH2, q_mul]
    have hN : g 70 2 * g 70 3 = Int32.ofNat (W * H) := by rw [hW, hH, q_mul]
    have q1 := cg_cell g u hn2 (by omega) hN2 h25 hc
    rw [show s_w1 (g 21) (Int32.ofNat c) n 0 = f_who n (s_start g) (Int32.ofNat c) from w_who_c cs _] at q1
    exact ⟨_, _, _, _, _, q1, rg_cell u ok (w_sms0 h5).1 hn h5 hN h25 hc, n, W, H, z, h.fr s_start_fr⟩
  · exact w_2n h (cb_cell g u hn2 hW2 hH2 (by omega) h25 x hb) (rb_cell g u hn hW hH (by omega) h25 x hb)
end
section
/-! BOTH SIDES of the calls that change the town. -/
theorem w_bit01 (t x : Int32) : s_bit t x = 0 ∨ s_bit t x = 1 := by
  unfold s_bit
  have z : ∀ v : BitVec 32, v &&& 1#32 = 0#32 ∨ v &&& 1#32 = 1#32 := fun v => by
    rcases Bool.eq_false_or_eq_true (v.getLsbD 0) with e | e
    · right
      apply BitVec.eq_of_getLsbD_eq
      intro i hi
      simp only [BitVec.getLsbD_and, BitVec.getLsbD_one]
      by_cases c : i = 0
      · subst c; simpa using e
      · simp [c]
    · left
      apply BitVec.eq_of_getLsbD_eq
      intro i hi
      simp only [BitVec.getLsbD_and, BitVec.getLsbD_one]
      by_cases c : i = 0
      · subst c; simpa using e
      · simp [c]
  rcases z ((t >>> (x &&& 31)).toBitVec) with e | e
  · exact Or.inl (Int32.toBitVec_inj.mp (by rw [Int32.toBitVec_and]; exact e))
  · exact Or.inr (Int32.toBitVec_inj.mp (by rw [Int32.toBitVec_and]; exact e))
theorem s_bit_and0 {t : Int32} {K N : Nat} (hK : K < 25) (hN : N < 25) (h : s_bit t (Int32.ofNat N) = 0) : s_bit (t &&& (((1 : Int32) <<< (Int32.ofNat K &&& 31)) ^^^ Int32.ofInt (-1))) (Int32.ofNat N) = 0 := by
  rw [s_bit_l hN] at h ⊢
  rw [Int32.toBitVec_and, BitVec.getLsbD_and, h]
  rfl
theorem w_sms2 {n : Nat} {g g1 : qM} (h5 : n ≤ 5) (e70 : g1 70 = g 70) (e71 : g1 71 = g 71) : w_sm n (s_start g1) (s_start g) := by
  refine ⟨⟨?_, ?_, ?_, ?_, ?_⟩, fun d _ _ => ?_, fun p hp => ⟨?_, ?_, ?_⟩⟩
  · show g1 70 4 = g 70 4; rw [e70]
  · show g1 70 2 = g 70 2; rw [e70]
  · show g1 70 3 = g 70 3; rw [e70]
  · show g1 71 20 = g 71 20; rw [e71]
  · show g1 71 25 = g 71 25; rw [e71]
  · show g1 71 (20 + d) = g 71 (20 + d); rw [e71]
  · show (if p < 5 then g1 71 p else g1 75 p) = (if p < 5 then g 71 p else g 75 p); rw [if_pos (by omega), if_pos (by omega), e71]
  · show (if p < 5 then g1 71 (5 + p) else g1 76 p) = (if p < 5 then g 71 (5 + p) else g 76 p); rw [if_pos (by omega), if_pos (by omega), e71]
  · show (if p < 5 then g1 71 (10 + p) else g1 77 p) = (if p < 5 then g 71 (10 + p) else g 77 p); rw [if_pos (by omega), if_pos (by omega), e71]
theorem s_start_o {g : qM} {a : Nat} (h : a ≠ 70 ∧ a ≠ 75 ∧ a ≠ 76 ∧ a ≠ 77 ∧ a ≠ 78) : s_start g a = g a := by
  funext j
  show (if a = 70 then _ else if a = 75 then _ else if a = 76 then _ else if a = 77 then _ else if a = 78 then _ else g a j) = _
  rw [if_neg h.1, if_neg h.2.1, if_neg h.2.2.1, if_neg h.2.2.2.1, if_neg h.2.2.2.2]
theorem w_TT.of {n W H z : Nat} {g : qM} {f c m s go pu so sw st : Nat → Int32} (h : TT n W H z f c m s go pu so sw st) (e0 : g 20 = f) (e1 : g 21 = c) (e2 : g 22 = m) (e3 : g 23 = s) (e4 : g 24 = go) (e5 : g 25 = pu) (e6 : g 26 = so) (e7 : g 27 = sw) (e8 : g 71 = st) : w_TT n W H z g := by
  unfold w_TT
  rw [e0, e1, e2, e3, e4, e5, e6, e7, e8]
  exact h
theorem pr_mood (x y : Int32) (g : qM) (u : qW) (h : w_R g) : w_2 47 174 [.int x, .int y] g u := by
  obtain ⟨n, W, H, z, h⟩ := h
  have h5 := h.n5
  have h25 := h.wh
  have ok := h.ok
  have cs := h.cs
  have hgo := h.hgo
  obtain ⟨hn, hW, hH⟩ := h.1
  have hn2 : g 20 3 = Int32.ofNat n := h.2.1.1.2.2.2.1
  have hW2 : g 20 0 = Int32.ofNat W := h.2.1.1.1
  have hH2 : g 20 1 = Int32.ofNat H := h.2.1.1.2.1
  by_cases hb : v_one n x ∧ v_rg 0 3 y
  · obtain ⟨⟨p, hp, rfl⟩, m, m0, m1, rfl⟩ := hb
    have hv : Int32.ofNat m = 0 ∨ Int32.ofNat m = 1 ∨ Int32.ofNat m = 2 ∨ Int32.ofNat m = 3 := by
      rcases (show m = 0 ∨ m = 1 ∨ m = 2 ∨ m = 3 by omega) with e | e | e | e
      · exact Or.inl (by rw [e]; rfl)
      · exact Or.inr (Or.inl (by rw [e]; rfl))
      · exact Or.inr (Or.inr (Or.inl (by rw [e]; rfl)))
      · exact Or.inr (Or.inr (Or.inr (by rw [e]; rfl)))
    have q := rg_mood (q_up g 22 p (Int32.ofNat m)) u hn h5 hp m1
    rw [show q_up g 22 p (Int32.ofNat m) 71 (5 + p) = g 22 p from (h.2.1.2.2.2.2.1 p hp).2.1.symm] at q
    exact ⟨_, _, _, _, _, cg_mood g u hn2 (by omega) hp m1, q, n, W, H, z, h.town (((w_fo_rfl g).up (by omega)).up (by omega)) (w_TT.of (h.2.1.mood hp hv) (by rw [q_up_ne (by decide), q_up_ne (by decide)]) (by rw [q_up_ne (by decide), q_up_ne (by decide)]) (by rw [q_up_ne (by decide), q_up_s]) (by rw [q_up_ne (by decide), q_up_ne (by decide)]) (by rw [q_up_ne (by decide), q_up_ne (by decide)]) (by rw [q_up_ne (by decide), q_up_ne (by decide)]) (by rw [q_up_ne (by decide), q_up_ne (by decide)]) (by rw [q_up_ne (by decide), q_up_ne (by decide)]) (by rw [q_up_s, q_up_ne (by decide)]))⟩
  · exact w_2n h (cb_mood g u hn2 hW2 hH2 (by omega) h25 x y hb) (rb_mood g u hn hW hH (by omega) h25 x y hb)
theorem pr_hold0 (x : Int32) (g : qM) (u : qW) (h : w_R g) : w_2 51 178 [.int x, .int (0 : Int32)] g u := by
  obtain ⟨n, W, H, z, h⟩ := h
  have h5 := h.n5
  have h25 := h.wh
  have ok := h.ok
  have cs := h.cs
  have hgo := h.hgo
  obtain ⟨hn, hW, hH⟩ := h.1
  have hn2 : g 20 3 = Int32.ofNat n := h.2.1.1.2.2.2.1
  have hW2 : g 20 0 = Int32.ofNat W := h.2.1.1.1
  have hH2 : g 20 1 = Int32.ofNat H := h.2.1.1.2.1
  by_cases hb : v_one n x
  · obtain ⟨p, hp, rfl⟩ := hb
    have q := rg_hold0 (q_up g 23 p 0) u hn h5 hp
    rw [show q_up g 23 p 0 71 (10 + p) = g 23 p from (h.2.1.2.2.2.2.1 p hp).2.2.1.symm] at q
    exact ⟨_, _, _, _, _, cg_hold0 g u hn2 (by omega) hp, q, n, W, H, z, h.town (((w_fo_rfl g).up (by omega)).up (by omega)) (w_TT.of (h.2.1.hold hp (Or.inl rfl)) (by rw [q_up_ne (by decide), q_up_ne (by decide)]) (by rw [q_up_ne (by decide), q_up_ne (by decide)]) (by rw [q_up_ne (by decide), q_up_ne (by decide)]) (by rw [q_up_ne (by decide), q_up_s]) (by rw [q_up_ne (by decide), q_up_ne (by decide)]) (by rw [q_up_ne (by decide), q_up_ne (by decide)]) (by rw [q_up_ne (by decide), q_up_ne (by decide)]) (by rw [q_up_ne (by decide), q_up_ne (by decide)]) (by rw [q_up_s, q_up_ne (by decide)]))⟩
  · exact w_2n h (cb_hold g u hn2 hW2 hH2 (by omega) h25 x (0 : Int32) hb) (rb_hold g u hn hW hH (by omega) h25 x (0 : Int32) hb)
theorem pr_hold1 (x : Int32) (g : qM) (u : qW) (h : w_R g) : w_2 51 178 [.int x, .int (1 : Int32)] g u := by
  obtain ⟨n, W, H, z, h⟩ := h
  have h5 := h.n5
  have h25 := h.wh
  have ok := h.ok
  have cs := h.cs
  have hgo := h.hgo
  obtain ⟨hn, hW, hH⟩ := h.1
  have hn2 : g 20 3 = Int32.ofNat n := h.2.1.1.2.2.2.1
  have hW2 : g 20 0 = Int32.ofNat W := h.2.1.1.1
  have hH2 : g 20 1 = Int32.ofNat H := h.2.1.1.2.1
  by_cases hb : v_one n x
  · obtain ⟨p, hp, rfl⟩ := hb
    have q := rg_hold1 (q_up g 23 p 1) u hn h5 hp
    rw [show q_up g 23 p 1 71 (10 + p) = g 23 p from (h.2.1.2.2.2.2.1 p hp).2.2.1.symm] at q
    exact ⟨_, _, _, _, _, cg_hold1 g u hn2 (by omega) hp, q, n, W, H, z, h.town (((w_fo_rfl g).up (by omega)).up (by omega)) (w_TT.of (h.2.1.hold hp (Or.inr rfl)) (by rw [q_up_ne (by decide), q_up_ne (by decide)]) (by rw [q_up_ne (by decide), q_up_ne (by decide)]) (by rw [q_up_ne (by decide), q_up_ne (by decide)]) (by rw [q_up_ne (by decide), q_up_s]) (by rw [q_up_ne (by decide), q_up_ne (by decide)]) (by rw [q_up_ne (by decide), q_up_ne (by decide)]) (by rw [q_up_ne (by decide), q_up_ne (by decide)]) (by rw [q_up_ne (by decide), q_up_ne (by decide)]) (by rw [q_up_s, q_up_ne (by decide)]))⟩
  · exact w_2n h (cb_hold g u hn2 hW2 hH2 (by omega) h25 x (1 : Int32) hb) (rb_hold g u hn hW hH (by omega) h25 x (1 : Int32) hb)
theorem pr_goal (x y : Int32) (g : qM) (u : qW) (h : w_R g) : w_2 52 179 [.int x, .int y] g u := by
  obtain ⟨n, W, H, z, h⟩ := h
  have h5 := h.n5
  have h25 := h.wh
  have ok := h.ok
  have cs := h.cs
  have hgo := h.hgo
  obtain ⟨hn, hW, hH⟩ := h.1
  have hn2 : g 20 3 = Int32.ofNat n := h.2.1.1.2.2.2.1
  have hW2 : g 20 0 = Int32.ofNat W := h.2.1.1.1
  have hH2 : g 20 1 = Int32.ofNat H := h.2.1.1.2.1
  by_cases hb : v_one n x ∧ (y = i_none ∨ v_one (W * H) y)
  · obtain ⟨⟨p, hp, rfl⟩, hy⟩ := hb
    have hN2 : g 20 0 * g 20 1 = Int32.ofNat (W * H) := by rw [hW2, hH2, q_mul]
    have hN : g 70 2 * g 70 3 = Int32.ofNat (W * H) := by rw [hW, hH, q_mul]
    rcases hy with rfl | ⟨c, hc, rfl⟩
    · have q := rg_goaln (q_up g 24 p i_none) u hn h5 hp
      rw [show q_up g 24 p i_none 71 (15 + p) = g 24 p from (h.2.1.2.2.2.2.1 p hp).2.2.2.symm] at q
      exact ⟨_, _, _, _, _, cg_goaln g u hn2 (by omega) hp, q, n, W, H, z, h.town (((w_fo_rfl g).up (by omega)).up (by omega)) (w_TT.of (h.2.1.goal hp) (by rw [q_up_ne (by decide), q_up_ne (by decide)]) (by rw [q_up_ne (by decide), q_up_ne (by decide)]) (by rw [q_up_ne (by decide), q_up_ne (by decide)]) (by rw [q_up_ne (by decide), q_up_ne (by decide)]) (by rw [q_up_ne (by decide), q_up_s]) (by rw [q_up_ne (by decide), q_up_ne (by decide)]) (by rw [q_up_ne (by decide), q_up_ne (by decide)]) (by rw [q_up_ne (by decide), q_up_ne (by decide)]) (by rw [q_up_s, q_up_ne (by decide)]))⟩
    · have q := rg_goalc (q_up g 24 p (Int32.ofNat c)) u hn h5 hp hN h25 hc
      rw [show q_up g 24 p (Int32.ofNat c) 71 (15 + p) = g 24 p from (h.2.1.2.2.2.2.1 p hp).2.2.2.symm] at q
      exact ⟨_, _, _, _, _, cg_goalc g u hn2 (by omega) hp hN2 h25 hc, q, n, W, H, z, h.town (((w_fo_rfl g).up (by omega)).up (by omega)) (w_TT.of (h.2.1.goal hp) (by rw [q_up_ne (by decide), q_up_ne (by decide)]) (by rw [q_up_ne (by decide), q_up_ne (by decide)]) (by rw [q_up_ne (by decide), q_up_ne (by decide)]) (by rw [q_up_ne (by decide), q_up_ne (by decide)]) (by rw [q_up_ne (by decide), q_up_s]) (by rw [q_up_ne (by decide), q_up_ne (by decide)]) (by rw [q_up_ne (by decide), q_up_ne (by decide)]) (by rw [q_up_ne (by decide), q_up_ne (by decide)]) (by rw [q_up_s, q_up_ne (by decide)]))⟩
  · exact w_2n h (cb_goal g u hn2 hW2 hH2 (by omega) h25 x y hb) (rb_goal g u hn hW hH (by omega) h25 x y hb)
theorem pr_press (x : Int32) (g : qM) (u : qW) (h : w_R g) : w_2 55 182 [.int x] g u := by
  obtain ⟨n, W, H, z, h⟩ := h
  have h5 := h.n5
  have h25 := h.wh
  have ok := h.ok
  have cs := h.cs
  have hgo := h.hgo
  obtain ⟨hn, hW, hH⟩ := h.1
  have hn2 : g 20 3 = Int32.ofNat n := h.2.1.1.2.2.2.1
  have hW2 : g 20 0 = Int32.ofNat W := h.2.1.1.1
  have hH2 : g 20 1 = Int32.ofNat H := h.2.1.1.2.1
  by_cases hb : v_rg 0 4 x
  · obtain ⟨m, m0, m1, rfl⟩ := hb
    have q := rg_press (q_up g 20 4 (Int32.ofNat m)) u m1
    rw [show q_up g 20 4 (Int32.ofNat m) 71 25 = g 20 4 from h.2.1.1.2.2.2.2.1.symm] at q
    exact ⟨_, _, _, _, _, cg_press g u m1, q, n, W, H, z, h.town (((w_fo_rfl g).up (by omega)).up (by omega)) (w_TT.of (h.2.1.press) (by rw [q_up_ne (by decide), q_up_s]) (by rw [q_up_ne (by decide), q_up_ne (by decide)]) (by rw [q_up_ne (by decide), q_up_ne (by decide)]) (by rw [q_up_ne (by decide), q_up_ne (by decide)]) (by rw [q_up_ne (by decide), q_up_ne (by decide)]) (by rw [q_up_ne (by decide), q_up_ne (by decide)]) (by rw [q_up_ne (by decide), q_up_ne (by decide)]) (by rw [q_up_ne (by decide), q_up_ne (by decide)]) (by rw [q_up_s, q_up_ne (by decide)]))⟩
  · exact w_2n h (cb_press g u hn2 hW2 hH2 (by omega) h25 x hb) (rb_press g u hn hW hH (by omega) h25 x hb)
theorem pr_pull (x y : Int32) (g : qM) (u : qW) (h : w_R g) : w_2 54 181 [.int x, .int y] g u := by
  obtain ⟨n, W, H, z, h⟩ := h
  have h5 := h.n5
  have h25 := h.wh
  have ok := h.ok
  have cs := h.cs
  have hgo := h.hgo
  obtain ⟨hn, hW, hH⟩ := h.1
  have hn2 : g 20 3 = Int32.ofNat n := h.2.1.1.2.2.2.1
  have hW2 : g 20 0 = Int32.ofNat W := h.2.1.1.1
  have hH2 : g 20 1 = Int32.ofNat H := h.2.1.1.2.1
  by_cases hb : v_rg 1 4 x ∧ v_rg 0 9 y
  · obtain ⟨⟨d, d0, d1, rfl⟩, m, m0, m1, rfl⟩ := hb
    have q := rg_pull (q_up g 25 d (Int32.ofNat m)) u ⟨d0, d1⟩ m1
    rw [show q_up g 25 d (Int32.ofNat m) 71 (20 + d) = g 25 d from (h.2.1.2.2.2.1 d d0 d1).symm] at q
    exact ⟨_, _, _, _, _, cg_pull g u ⟨d0, d1⟩ m1, q, n, W, H, z, h.town (((w_fo_rfl g).up (by omega)).up (by omega)) (w_TT.of (h.2.1.pull ⟨d0, d1⟩) (by rw [q_up_ne (by decide), q_up_ne (by decide)]) (by rw [q_up_ne (by decide), q_up_ne (by decide)]) (by rw [q_up_ne (by decide), q_up_ne (by decide)]) (by rw [q_up_ne (by decide), q_up_ne (by decide)]) (by rw [q_up_ne (by decide), q_up_ne (by decide)]) (by rw [q_up_ne (by decide), q_up_s]) (by rw [q_up_ne (by decide), q_up_ne (by decide)]) (by rw [q_up_ne (by decide), q_up_ne (by decide)]) (by rw [q_up_s, q_up_ne (by decide)]))⟩
  · exact w_2n h (cb_pull g u hn2 hW2 hH2 (by omega) h25 x y hb) (rb_pull g u hn hW hH (by omega) h25 x y hb)
theorem pr_put (x y : Int32) (g : qM) (u : qW) (h : w_R g) : w_2 49 176 [.int x, .int y] g u := by
  obtain ⟨n, W, H, z, h⟩ := h
  have h5 := h.n5
  have h25 := h.wh
  have ok := h.ok
  have cs := h.cs
  have hgo := h.hgo
  obtain ⟨hn, hW, hH⟩ := h.1
  have hn2 : g 20 3 = Int32.ofNat n := h.2.1.1.2.2.2.1
  have hW2 : g 20 0 = Int32.ofNat W := h.2.1.1.1
  have hH2 : g 20 1 = Int32.ofNat H := h.2.1.1.2.1
  by_cases hb : v_one n x ∧ v_one (W * H) y
  · obtain ⟨⟨p, hp, rfl⟩, c, hc, rfl⟩ := hb
    have hN2 : g 20 0 * g 20 1 = Int32.ofNat (W * H) := by rw [hW2, hH2, q_mul]
    have hN : g 70 2 * g 70 3 = Int32.ofNat (W * H) := by rw [hW, hH, q_mul]
    rcases p_can_01 n (s_start g) p c with hcan | hcan
    · exact ⟨_, _, _, _, _, cg_put0 u ok cs hn2 (by omega) hN2 h25 hc hp hcan, rg_put0 u ok (w_sms0 h5).1 hn h5 hN h25 hc hp hc hcan, n, W, H, z, h.fr s_start_fr⟩
    · have e75 : ∀ q, q < n → s_start g 75 q = g 71 q := fun q hq => by
        show (if q < 5 then g 71 q else g 75 q) = _
        rw [if_pos (by omega)]
      have hok2 := w_ok_put ok hp hc (by rw [hcan]; decide)
      have hwa : s_bit (g 71 20) (Int32.ofNat c) = 0 := by
        have y := hok2.2.2.2.2.2.2.1 p hp
        rw [q_up_ne (by decide), q_up_at, if_pos rfl] at y
        exact y
      have hdi : ∀ q, q < n → q ≠ p → g 71 q ≠ Int32.ofNat c := fun q hq hqp => by
        have y := hok2.2.2.2.2.2.1 q p hq hp hqp
        rw [q_up_at, if_neg hqp, q_up_at, if_pos rfl, e75 q hq] at y
        exact y
      have hsm : w_sm n (s_start (q_up g 21 p (Int32.ofNat c))) (s_start g) := w_sms2 h5 (q_up_ne (by decide)) (q_up_ne (by decide))
      have q := rg_put1 u ok hsm hn h5 hN h25 hc hp hc hcan
      rw [show q_up g 21 p (Int32.ofNat c) 71 p = g 21 p from (h.2.1.2.2.2.2.1 p hp).1.symm] at q
      exact ⟨_, _, _, _, _, cg_put1 u ok cs hn2 (by omega) hN2 h25 hc hp hcan, q, n, W, H, z, h.town ((((w_fo_rfl g).up (by omega)).trans s_start_fr.fo).up (by omega)) (w_TT.of (h.2.1.put hp hc hwa hdi) (by rw [q_up_ne (by decide), s_start_o (by decide), q_up_ne (by decide)]) (by rw [q_up_ne (by decide), s_start_o (by decide), q_up_s]) (by rw [q_up_ne (by decide), s_start_o (by decide), q_up_ne (by decide)]) (by rw [q_up_ne (by decide), s_start_o (by decide), q_up_ne (by decide)]) (by rw [q_up_ne (by decide), s_start_o (by decide), q_up_ne (by decide)]) (by rw [q_up_ne (by decide), s_start_o (by decide), q_up_ne (by decide)]) (by rw [q_up_ne (by decide), s_start_o (by decide), q_up_ne (by decide)]) (by rw [q_up_ne (by decide), s_start_o (by decide), q_up_ne (by decide)]) (by rw [q_up_s, s_start_o (by decide), q_up_ne (by decide)]))⟩
  · exact w_2n h (cb_put g u hn2 hW2 hH2 (by omega) h25 x y hb) (rb_put g u hn hW hH (by omega) h25 x y hb)
theorem pr_wall0 (x : Int32) (g : qM) (u : qW) (h : w_R g) : w_2 53 180 [.int x, .int (0 : Int32)] g u := by
  obtain ⟨n, W, H, z, h⟩ := h
  have h5 := h.n5
  have h25 := h.wh
  have ok := h.ok
  have cs := h.cs
  have hgo := h.hgo
  obtain ⟨hn, hW, hH⟩ := h.1
  have hn2 : g 20 3 = Int32.ofNat n := h.2.1.1.2.2.2.1
  have hW2 : g 20 0 = Int32.ofNat W := h.2.1.1.1
  have hH2 : g 20 1 = Int32.ofNat H := h.2.1.1.2.1
  by_cases hb : v_one (W * H) x
  · obtain ⟨c, hc, rfl⟩ := hb
    have hN2 : g 20 0 * g 20 1 = Int32.ofNat (W * H) := by rw [hW2, hH2, q_mul]
    have hN : g 70 2 * g 70 3 = Int32.ofNat (W * H) := by rw [hW, hH, q_mul]
    have ew : s_w1 (g 21) (Int32.ofNat c) n 0 = f_who n (s_start g) (Int32.ofNat c) := w_who_c cs _
    have e20 : g 20 2 = g 71 20 := h.2.1.1.2.2.1
    by_cases hw : f_who n (s_start g) (Int32.ofNat c) = i_none
    · have e75 : ∀ q, q < n → s_start g 75 q = g 71 q := fun q hq => by
        show (if q < 5 then g 71 q else g 75 q) = _
        rw [if_pos (by omega)]
      have hno := w_who_none ok hw
      have hv : ∀ p, p < n → s_bit ((g 71 20) &&& (((1 : Int32) <<< ((Int32.ofNat c) &&& 31)) ^^^ (Int32.ofInt (-1)))) (g 71 p) = 0 := fun p hp => by
        obtain ⟨C, hC, eC⟩ := h.2.1.2.2.2.2.2.2.1 p hp
        have y := h.2.1.2.2.2.2.2.2.2.2.1 p hp
        have y2 := hno p hp
        rw [e75 p hp] at y2
        rw [eC] at y y2 ⊢
        exact s_bit_and0 (by omega) (by omega) y
      have hsm : w_sm n (s_start (q_up g 20 2 ((g 20 2) &&& (((1 : Int32) <<< ((Int32.ofNat c) &&& 31)) ^^^ (Int32.ofInt (-1)))))) (s_start g) := w_sms2 h5 (q_up_ne (by decide)) (q_up_ne (by decide))
      have q1 := cg_wall01 g u hn2 (by omega) hN2 h25 hc (ew.trans hw)
      have q2 := rg_wall01 (g := q_up g 20 2 ((g 20 2) &&& (((1 : Int32) <<< ((Int32.ofNat c) &&& 31)) ^^^ (Int32.ofInt (-1))))) u ok hsm hn h5 hN h25 hc hw
      rw [e20] at q1 q2
      have ea : (if d_hasWall (Int32.ofNat c) g = 0 then (0 : Int32) else 1) = s_bit (q_up g 20 2 ((g 71 20) &&& (((1 : Int32) <<< ((Int32.ofNat c) &&& 31)) ^^^ (Int32.ofInt (-1)))) 71 20) (Int32.ofNat c) := by
        show (if d_hasWall (Int32.ofNat c) g = 0 then (0 : Int32) else 1) = s_bit (g 71 20) (Int32.ofNat c)
        unfold d_hasWall
        rw [e20]
        rcases w_bit01 (g 71 20) (Int32.ofNat c) with y | y
        · rw [show ((g 71 20 >>> (Int32.ofNat c &&& 31)) &&& 1) = 0 from y, y]
          decide
        · rw [show ((g 71 20 >>> (Int32.ofNat c &&& 31)) &&& 1) = 1 from y, y]
          decide
      rw [← ea] at q2
      exact ⟨_, _, _, _, _, q1, q2, n, W, H, z, h.town ((((w_fo_rfl g).up (by omega)).trans s_start_fr.fo).up (by omega)) (w_TT.of (h.2.1.wall hv) (by rw [q_up_ne (by decide), s_start_o (by decide), q_up_s]) (by rw [q_up_ne (by decide), s_start_o (by decide), q_up_ne (by decide)]) (by rw [q_up_ne (by decide), s_start_o (by decide), q_up_ne (by decide)]) (by rw [q_up_ne (by decide), s_start_o (by decide), q_up_ne (by decide)]) (by rw [q_up_ne (by decide), s_start_o (by decide), q_up_ne (by decide)]) (by rw [q_up_ne (by decide), s_start_o (by decide), q_up_ne (by decide)]) (by rw [q_up_ne (by decide), s_start_o (by decide), q_up_ne (by decide)]) (by rw [q_up_ne (by decide), s_start_o (by decide), q_up_ne (by decide)]) (by rw [q_up_s, s_start_o (by decide), q_up_ne (by decide)]))⟩
    · exact ⟨_, _, _, _, _, cg_wall00 g u hn2 (by omega) hN2 h25 hc (fun y => hw (ew.symm.trans y)), rg_wall00 u ok (w_sms0 h5).1 hn h5 hN h25 hc hw, n, W, H, z, h.fr s_start_fr⟩
  · exact w_2n h (cb_wall g u hn2 hW2 hH2 (by omega) h25 x (0 : Int32) hb) (rb_wall g u hn hW hH (by omega) h25 x (0 : Int32) hb)
theorem pr_wall1 (x : Int32) (g : qM) (u : qW) (h : w_R g) : w_2 53 180 [.int x, .int (1 : Int32)] g u := by
  obtain ⟨n, W, H, z, h⟩ := h
  have h5 := h.n5
  have h25 := h.wh
  have ok := h.ok
  have cs := h.cs
  have hgo := h.hgo
  obtain ⟨hn, hW, hH⟩ := h.1
  have hn2 : g 20 3 = Int32.ofNat n := h.2.1.1.2.2.2.1
  have hW2 : g 20 0 = Int32.ofNat W := h.2.1.1.1
  have hH2 : g 20 1 = Int32.ofNat H := h.2.1.1.2.1
  by_cases hb : v_one (W * H) x
  · obtain ⟨c, hc, rfl⟩ := hb
    have hN2 : g 20 0 * g 20 1 = Int32.ofNat (W * H) := by rw [hW2, hH2, q_mul]
    have hN : g 70 2 * g 70 3 = Int32.ofNat (W * H) := by rw [hW, hH, q_mul]
    have ew : s_w1 (g 21) (Int32.ofNat c) n 0 = f_who n (s_start g) (Int32.ofNat c) := w_who_c cs _
    have e20 : g 20 2 = g 71 20 := h.2.1.1.2.2.1
    by_cases hw : f_who n (s_start g) (Int32.ofNat c) = i_none
    · have e75 : ∀ q, q < n → s_start g 75 q = g 71 q := fun q hq => by
        show (if q < 5 then g 71 q else g 75 q) = _
        rw [if_pos (by omega)]
      have hno := w_who_none ok hw
      have hv : ∀ p, p < n → s_bit ((g 71 20) ||| ((1 : Int32) <<< ((Int32.ofNat c) &&& 31))) (g 71 p) = 0 := fun p hp => by
        obtain ⟨C, hC, eC⟩ := h.2.1.2.2.2.2.2.2.1 p hp
        have y := h.2.1.2.2.2.2.2.2.2.2.1 p hp
        have y2 := hno p hp
        rw [e75 p hp] at y2
        rw [eC] at y y2 ⊢
        exact (s_bit_or (by omega) (by omega)).mpr ⟨y, fun e => y2 (by rw [e])⟩
      have hsm : w_sm n (s_start (q_up g 20 2 ((g 20 2) ||| ((1 : Int32) <<< ((Int32.ofNat c) &&& 31))))) (s_start g) := w_sms2 h5 (q_up_ne (by decide)) (q_up_ne (by decide))
      have q1 := cg_wall11 g u hn2 (by omega) hN2 h25 hc (ew.trans hw)
      have q2 := rg_wall11 (g := q_up g 20 2 ((g 20 2) ||| ((1 : Int32) <<< ((Int32.ofNat c) &&& 31)))) u ok hsm hn h5 hN h25 hc hw
      rw [e20] at q1 q2
      have ea : (if d_hasWall (Int32.ofNat c) g = 0 then (0 : Int32) else 1) = s_bit (q_up g 20 2 ((g 71 20) ||| ((1 : Int32) <<< ((Int32.ofNat c) &&& 31))) 71 20) (Int32.ofNat c) := by
        show (if d_hasWall (Int32.ofNat c) g = 0 then (0 : Int32) else 1) = s_bit (g 71 20) (Int32.ofNat c)
        unfold d_hasWall
        rw [e20]
        rcases w_bit01 (g 71 20) (Int32.ofNat c) with y | y
        · rw [show ((g 71 20 >>> (Int32.ofNat c &&& 31)) &&& 1) = 0 from y, y]
          decide
        · rw [show ((g 71 20 >>> (Int32.ofNat c &&& 31)) &&& 1) = 1 from y, y]
          decide
      rw [← ea] at q2
      exact ⟨_, _, _, _, _, q1, q2, n, W, H, z, h.town ((((w_fo_rfl g).up (by omega)).trans s_start_fr.fo).up (by omega)) (w_TT.of (h.2.1.wall hv) (by rw [q_up_ne (by decide), s_start_o (by decide), q_up_s]) (by rw [q_up_ne (by decide), s_start_o (by decide), q_up_ne (by decide)]) (by rw [q_up_ne (by decide), s_start_o (by decide), q_up_ne (by decide)]) (by rw [q_up_ne (by decide), s_start_o (by decide), q_up_ne (by decide)]) (by rw [q_up_ne (by decide), s_start_o (by decide), q_up_ne (by decide)]) (by rw [q_up_ne (by decide), s_start_o (by decide), q_up_ne (by decide)]) (by rw [q_up_ne (by decide), s_start_o (by decide), q_up_ne (by decide)]) (by rw [q_up_ne (by decide), s_start_o (by decide), q_up_ne (by decide)]) (by rw [q_up_s, s_start_o (by decide), q_up_ne (by decide)]))⟩
    · exact ⟨_, _, _, _, _, cg_wall10 g u hn2 (by omega) hN2 h25 hc (fun y => hw (ew.symm.trans y)), rg_wall10 u ok (w_sms0 h5).1 hn h5 hN h25 hc hw, n, W, H, z, h.fr s_start_fr⟩
  · exact w_2n h (cb_wall g u hn2 hW2 hH2 (by omega) h25 x (1 : Int32) hb) (rb_wall g u hn hW hH (by omega) h25 x (1 : Int32) hb)
theorem pr_see (x y : Int32) (g : qM) (u : qW) (h : w_R g) : w_2 118 212 [.int x, .int y] g u := by
  obtain ⟨n, W, H, z, h⟩ := h
  have h5 := h.n5
  have h25 := h.wh
  have ok := h.ok
  have cs := h.cs
  have hgo := h.hgo
  obtain ⟨hn, hW, hH⟩ := h.1
  have hn2 : g 20 3 = Int32.ofNat n := h.2.1.1.2.2.2.1
  have hW2 : g 20 0 = Int32.ofNat W := h.2.1.1.1
  have hH2 : g 20 1 = Int32.ofNat H := h.2.1.1.2.1
  by_cases hb : v_one n x ∧ v_rg 0 4 y
  · obtain ⟨⟨p, hp, rfl⟩, m, m0, m1, rfl⟩ := hb
    have h6 : g 20 6 = Int32.ofNat z := h.2.1.1.2.2.2.2.2.2.1
    have h27 : g 71 27 = Int32.ofNat z := h.2.1.1.2.2.2.2.2.2.2
    have hz8 : z ≤ 8 := h.2.1.2.1.2.2.2.2.2
    by_cases hz : z < 8
    · have q1 := cg_see g u hn2 (by omega) hp m1 hz8 h6 hz
      have q2 := rg_see (q_up (q_up (q_up g 26 z (Int32.ofNat p)) 27 z (Int32.ofNat m)) 20 6 (Int32.ofNat (z + 1))) u hn h5 hp m1 hz8 h27 hz
      rw [show g 20 6 + 1 = Int32.ofNat (z + 1) from by rw [h6, q_succ]] at q1
      rw [show (q_up (q_up (q_up g 26 z (Int32.ofNat p)) 27 z (Int32.ofNat m)) 20 6 (Int32.ofNat (z + 1))) 71 27 + 1 = Int32.ofNat (z + 1) from by rw [show (q_up (q_up (q_up g 26 z (Int32.ofNat p)) 27 z (Int32.ofNat m)) 20 6 (Int32.ofNat (z + 1))) 71 27 = Int32.ofNat z from h27, q_succ]] at q2
      exact ⟨_, _, _, _, _, q1, q2, n, W, H, z + 1, h.town (((((((w_fo_rfl g).up (by omega)).up (by omega)).up (by omega)).up (by omega)).up (by omega)).up (by omega)) (w_TT.of (h.2.1.see hp hz) (by rw [q_up_ne (by decide), q_up_ne (by decide), q_up_ne (by decide), q_up_s, q_up_ne (by decide), q_up_ne (by decide)]) (by rw [q_up_ne (by decide), q_up_ne (by decide), q_up_ne (by decide), q_up_ne (by decide), q_up_ne (by decide), q_up_ne (by decide)]) (by rw [q_up_ne (by decide), q_up_ne (by decide), q_up_ne (by decide), q_up_ne (by decide), q_up_ne (by decide), q_up_ne (by decide)]) (by rw [q_up_ne (by decide), q_up_ne (by decide), q_up_ne (by decide), q_up_ne (by decide), q_up_ne (by decide), q_up_ne (by decide)]) (by rw [q_up_ne (by decide), q_up_ne (by decide), q_up_ne (by decide), q_up_ne (by decide), q_up_ne (by decide), q_up_ne (by decide)]) (by rw [q_up_ne (by decide), q_up_ne (by decide), q_up_ne (by decide), q_up_ne (by decide), q_up_ne (by decide), q_up_ne (by decide)]) (by rw [q_up_ne (by decide), q_up_ne (by decide), q_up_ne (by decide), q_up_ne (by decide), q_up_ne (by decide), q_up_s]) (by rw [q_up_ne (by decide), q_up_ne (by decide), q_up_ne (by decide), q_up_ne (by decide), q_up_s, q_up_ne (by decide)]) (by rw [q_up_s, q_up_s, q_up_s, q_up_ne (by decide), q_up_ne (by decide), q_up_ne (by decide)]))⟩
    · have hz : z = 8 := by omega
      subst hz
      exact w_2n h (cg_see8 g u hn2 (by omega) hp m1 h6) (rg_see8 g u hn h5 hp m1 h27)
  · exact w_2n h (cb_see g u hn2 hW2 hH2 (by omega) h25 x y hb) (rb_see g u hn hW hH (by omega) h25 x y hb)
theorem pr_forget (x : Int32) (g : qM) (u : qW) (h : w_R g) : w_2 119 213 [.int x] g u := by
  obtain ⟨n, W, H, z, h⟩ := h
  have h5 := h.n5
  have h25 := h.wh
  have ok := h.ok
  have cs := h.cs
  have hgo := h.hgo
  obtain ⟨hn, hW, hH⟩ := h.1
  have hn2 : g 20 3 = Int32.ofNat n := h.2.1.1.2.2.2.1
  have hW2 : g 20 0 = Int32.ofNat W := h.2.1.1.1
  have hH2 : g 20 1 = Int32.ofNat H := h.2.1.1.2.1
  have h6 : g 20 6 = Int32.ofNat z := h.2.1.1.2.2.2.2.2.2.1
  have h27 : g 71 27 = Int32.ofNat z := h.2.1.1.2.2.2.2.2.2.2
  have hz8 : z ≤ 8 := h.2.1.2.1.2.2.2.2.2
  have q1 := b_forget x g u
  by_cases hb : v_rg 0 z x
  · obtain ⟨m, m0, m1, rfl⟩ := hb
    have c1 : ¬ Int32.ofNat m < 0 := fun y => absurd ((q_lt (j := 0) (by omega) (by omega)).mp y) (by omega)
    have c2 : Int32.ofNat m ≤ g 20 6 := by rw [h6]; exact (q_le (by omega) (by omega)).mpr m1
    unfold d_forget at q1
    rw [if_neg c1, if_pos c2] at q1
    have q2 := b_rforget (Int32.ofNat m) (q_up g 20 6 (Int32.ofNat m)) u
    have c3 : ¬ s_in (Int32.toInt64 (Int32.ofNat m)) (0 : Int64) (Int32.toInt64 (q_up g 20 6 (Int32.ofNat m) 71 27)) = 0 := by
      rw [s_in_iff, show (0 : Int64).toInt = 0 from rfl, Int32.toInt_toInt64, Int32.toInt_toInt64, show q_up g 20 6 (Int32.ofNat m) 71 27 = Int32.ofNat z from h27, q_nat (by omega), q_nat (by omega)]
      omega
    unfold d_rforget at q2
    rw [if_neg c3, show q_up g 20 6 (Int32.ofNat m) 71 27 = g 20 6 from h27.trans h6.symm] at q2
    exact ⟨_, _, _, _, _, q1, q2, n, W, H, m, h.town (((w_fo_rfl g).up (by omega)).up (by omega)) (w_TT.of (h.2.1.forget m1) (by rw [q_up_ne (by decide), q_up_s]) (by rw [q_up_ne (by decide), q_up_ne (by decide)]) (by rw [q_up_ne (by decide), q_up_ne (by decide)]) (by rw [q_up_ne (by decide), q_up_ne (by decide)]) (by rw [q_up_ne (by decide), q_up_ne (by decide)]) (by rw [q_up_ne (by decide), q_up_ne (by decide)]) (by rw [q_up_ne (by decide), q_up_ne (by decide)]) (by rw [q_up_ne (by decide), q_up_ne (by decide)]) (by rw [q_up_s, q_up_ne (by decide)]))⟩
  · have e1 : d_forget x g u = (some (.int (Int32.ofInt (-1))), g, u) := by
      unfold d_forget
      by_cases c1 : x < 0
      · rw [if_pos c1]
      · rw [if_neg c1, if_neg (fun c2 => hb (by rw [h6] at c2; exact vr_c' (lo := 0) (by omega) (by omega) c1 c2))]
    have e2 : d_rforget x g u = (some (.int (Int32.ofInt (-1))), g, u) := by
      unfold d_rforget
      rw [if_pos]
      refine Classical.byContradiction (fun c3 => hb ?_)
      rw [s_in_iff, show (0 : Int64).toInt = 0 from rfl, Int32.toInt_toInt64, Int32.toInt_toInt64, h27, q_nat (by omega)] at c3
      exact v_nat c3.1 c3.2
    rw [e1] at q1
    have q2 := b_rforget x g u
    rw [e2] at q2
    exact w_2n h q1 q2
theorem pr_rule (x : Int32) (g : qM) (u : qW) (h : w_R g) : w_2 44 167 [.int x] g u := by
  obtain ⟨n, W, H, z, h⟩ := h
  have h5 := h.n5
  have h25 := h.wh
  have ok := h.ok
  have cs := h.cs
  have hgo := h.hgo
  obtain ⟨hn, hW, hH⟩ := h.1
  have hn2 : g 20 3 = Int32.ofNat n := h.2.1.1.2.2.2.1
  have hW2 : g 20 0 = Int32.ofNat W := h.2.1.1.1
  have hH2 : g 20 1 = Int32.ofNat H := h.2.1.1.2.1
  by_cases hx : x.toInt < 0 ∨ 5 < x.toInt
  · by_cases hb : v_rg 11 14 x
    · obtain ⟨m, m0, m1, rfl⟩ := hb
      rcases (show m = 11 ∨ m = 12 ∨ m = 13 ∨ m = 14 by omega) with e | e | e | e
      · subst e
        have q := rg_rule11 g u
        rw [← show g 25 1 = g 71 21 from h.2.1.2.2.2.1 1 (by omega) (by omega)] at q
        exact w_2n h (cg_rule11 g u) q
      · subst e
        have q := rg_rule12 g u
        rw [← show g 25 2 = g 71 22 from h.2.1.2.2.2.1 2 (by omega) (by omega)] at q
        exact w_2n h (cg_rule12 g u) q
      · subst e
        have q := rg_rule13 g u
        rw [← show g 25 3 = g 71 23 from h.2.1.2.2.2.1 3 (by omega) (by omega)] at q
        exact w_2n h (cg_rule13 g u) q
      · subst e
        have q := rg_rule14 g u
        rw [← show g 25 4 = g 71 24 from h.2.1.2.2.2.1 4 (by omega) (by omega)] at q
        exact w_2n h (cg_rule14 g u) q
    · exact w_2n h (cb_rule g u x hx hb) (rb_rule g u x hx hb)
  · obtain ⟨m, m0, m1, rfl⟩ : v_rg 0 5 x := v_nat (by omega) (by omega)
    rcases (show m = 0 ∨ m = 1 ∨ m = 2 ∨ m = 3 ∨ m = 4 ∨ m = 5 by omega) with e | e | e | e | e | e
    · subst e
      have q := rg_rule0 g u
      rw [← show g 20 0 = g 70 2 from hW2.trans hW.symm] at q
      exact w_2n h (cg_rule0 g u) q
    · subst e
      have q := rg_rule1 g u
      rw [← show g 20 1 = g 70 3 from hH2.trans hH.symm] at q
      exact w_2n h (cg_rule1 g u) q
    · subst e
      have q := rg_rule2 g u
      rw [← show g 20 2 = g 71 20 from h.2.1.1.2.2.1] at q
      exact w_2n h (cg_rule2 g u) q
    · subst e
      have q := rg_rule3 g u
      rw [← show g 20 3 = g 70 4 from hn2.trans hn.symm] at q
      exact w_2n h (cg_rule3 g u) q
    · subst e
      have q := rg_rule4 g u
      rw [← show g 20 4 = g 71 25 from h.2.1.1.2.2.2.2.1] at q
      exact w_2n h (cg_rule4 g u) q
    · subst e
      have q := rg_rule5 g u
      rw [← show g 20 5 = g 71 26 from h.2.1.1.2.2.2.2.2.1] at q
      exact w_2n h (cg_rule5 g u) q
theorem pr_one (x y : Int32) (g : qM) (u : qW) (h : w_R g) : w_2 45 168 [.int x, .int y] g u := by
  obtain ⟨n, W, H, z, h⟩ := h
  have h5 := h.n5
  have h25 := h.wh
  have ok := h.ok
  have cs := h.cs
  have hgo := h.hgo
  obtain ⟨hn, hW, hH⟩ := h.1
  have hn2 : g 20 3 = Int32.ofNat n := h.2.1.1.2.2.2.1
  have hW2 : g 20 0 = Int32.ofNat W := h.2.1.1.1
  have hH2 : g 20 1 = Int32.ofNat H := h.2.1.1.2.1
  by_cases hb : v_one n x ∧ v_rg 0 3 y
  · obtain ⟨⟨p, hp, rfl⟩, m, m0, m1, rfl⟩ := hb
    rcases (show m = 0 ∨ m = 1 ∨ m = 2 ∨ m = 3 by omega) with e | e | e | e
    · subst e
      have q := rg_one0 g u hn h5 hp
      rw [← show g 21 p = g 71 (0 + p) from (h.2.1.2.2.2.2.1 p hp).1.trans (by rw [Nat.zero_add])] at q
      exact w_2n h (cg_one0 g u hn2 (by omega) hp) q
    · subst e
      have q := rg_one1 g u hn h5 hp
      rw [← show g 22 p = g 71 (5 + p) from (h.2.1.2.2.2.2.1 p hp).2.1] at q
      exact w_2n h (cg_one1 g u hn2 (by omega) hp) q
    · subst e
      have q := rg_one2 g u hn h5 hp
      rw [← show g 23 p = g 71 (10 + p) from (h.2.1.2.2.2.2.1 p hp).2.2.1] at q
      exact w_2n h (cg_one2 g u hn2 (by omega) hp) q
    · subst e
      have q := rg_one3 g u hn h5 hp
      rw [← show g 24 p = g 71 (15 + p) from (h.2.1.2.2.2.2.1 p hp).2.2.2] at q
      exact w_2n h (cg_one3 g u hn2 (by omega) hp) q
  · by_cases hb1 : v_one n x
    · obtain ⟨p, hp, rfl⟩ := hb1
      have hy : y.toInt < 0 ∨ 3 < y.toInt := by
        rcases Int.lt_or_le y.toInt 0 with c | c
        · exact Or.inl c
        · rcases Int.lt_or_le 3 y.toInt with d | d
          · exact Or.inr d
          · exact absurd ⟨⟨p, hp, rfl⟩, v_nat c d⟩ hb
      exact w_2n h (cb_one2 g u hn2 (by omega) hp y hy) (rb_one g u hn (by omega) _ y hb)
    · exact w_2n h (cb_one g u hn2 (by omega) x y hb1) (rb_one g u hn (by omega) x y hb)
theorem pr_fault (g : qM) (u : qW) (h : w_R g) : w_2 43 166 [] g u := by
  obtain ⟨n, W, H, z, h⟩ := h
  have q := b_rfault g u
  rw [show d_rfault g = d_fault g from h.2.2.2.2.1.symm] at q
  exact w_2n h (b_fault g u) q
end
section
/-! BOTH SIDES of images and counts. -/
theorem TT.cgc {n W H z : Nat} {f c m s go pu so sw st f' c' m' s' go' pu' so' sw' : Nat → Int32} (h : TT n W H z f c m s go pu so sw st) (e0 : ∀ j, j < 7 → f' j = f j) (e1 : ∀ j, j < 6 → c' j = c j) (e2 : ∀ j, j < 6 → m' j = m j) (e3 : ∀ j, j < 6 → s' j = s j) (e4 : ∀ j, j < 6 → go' j = go j) (e5 : ∀ j, j < 5 → pu' j = pu j) (e6 : ∀ j, j < 8 → so' j = so j) (e7 : ∀ j, j < 8 → sw' j = sw j) : TT n W H z f' c' m' s' go' pu' so' sw' st := by
  obtain ⟨t1, t2, t3, t4, t5, t6, t7⟩ := h
  unfold TT
  rw [e0 0 (by omega), e0 1 (by omega), e0 2 (by omega), e0 3 (by omega), e0 4 (by omega), e0 5 (by omega), e0 6 (by omega)]
  refine ⟨t1, t2, t3, fun d h1 h2 => ?_, fun p hp => ?_, fun k hk => ?_, t7⟩
  · rw [e5 d (by omega)]; exact t4 d h1 h2
  · rw [e1 p (by omega), e2 p (by omega), e3 p (by omega), e4 p (by omega)]; exact t5 p hp
  · rw [e6 k (by omega), e7 k (by omega)]; exact t6 k hk
theorem TT.copy {n W H z a b : Nat} {g : qM} {st : Nat → Int32} (hd : a + 7 < b ∨ b + 7 < a) (h : TT n W H z (g b) (g (b + 1)) (g (b + 2)) (g (b + 3)) (g (b + 4)) (g (b + 5)) (g (b + 6)) (g (b + 7)) st) : TT n W H z (s_cpy a b g a) (s_cpy a b g (a + 1)) (s_cpy a b g (a + 2)) (s_cpy a b g (a + 3)) (s_cpy a b g (a + 4)) (s_cpy a b g (a + 5)) (s_cpy a b g (a + 6)) (s_cpy a b g (a + 7)) st := h.cgc (fun j hj => s_cpy_f hj) (fun j hj => s_cpy_1 hj hd) (fun j hj => s_cpy_2 hj hd) (fun j hj => s_cpy_3 hj hd) (fun j hj => s_cpy_4 hj hd) (fun j hj => s_cpy_5 hj hd) (fun j hj => s_cpy_6 hj hd) (fun j hj => s_cpy_7 hj hd)
theorem TT.moods {n W H z : Nat} {f c m s go pu so sw st F G : Nat → Int32} (h : TT n W H z f c m s go pu so sw st) (hF : ∀ p, p < n → F p = G p) (hG : ∀ q, q < 5 → G q = 0 ∨ G q = 1 ∨ G q = 2 ∨ G q = 3) : TT n W H z f c F s go pu so sw (fun j => if 5 ≤ j ∧ j < 10 then G (j - 5) else st j) := by
  obtain ⟨t1, t2, t3, t4, t5, t6, t7, t8, t9, t10, t11⟩ := h
  have e : ∀ j, ¬ (5 ≤ j ∧ j < 10) → (fun j => if 5 ≤ j ∧ j < 10 then G (j - 5) else st j) j = st j := fun j hj => if_neg hj
  have e5 : ∀ q, q < 5 → (fun j => if 5 ≤ j ∧ j < 10 then G (j - 5) else st j) (5 + q) = G q := fun q hq => by
    show (if 5 ≤ 5 + q ∧ 5 + q < 10 then G (5 + q - 5) else st (5 + q)) = G q
    rw [if_pos (by omega), show 5 + q - 5 = q by omega]
  generalize (fun j => if 5 ≤ j ∧ j < 10 then G (j - 5) else st j) = st' at e e5
  unfold TT
  rw [e 20 (by omega), e 25 (by omega), e 26 (by omega), e 27 (by omega)]
  refine ⟨t1, t2, t3, fun d h1 h2 => ?_, fun q hq => ?_, fun k hk => ?_, fun q hq => ?_, fun q r hq hr hqr => ?_, fun q hq => ?_, fun q hq => ?_, fun q hq => ?_⟩
  · rw [e _ (by omega)]; exact t4 d h1 h2
  · rw [e q (by omega), e5 q (by omega), e (10 + q) (by omega), e (15 + q) (by omega)]
    exact ⟨(t5 q hq).1, hF q hq, (t5 q hq).2.2⟩
  · rw [e _ (by omega), e _ (by omega)]; exact t6 k hk
  · rw [e _ (by omega)]; exact t7 q hq
  · rw [e _ (by omega), e _ (by omega)]; exact t8 q r hq hr hqr
  · rw [e _ (by omega)]; exact t9 q hq
  · rw [e5 q hq]; exact hG q hq
  · rw [e _ (by omega)]; exact t11 q hq
/-- what stands outside images, sheets is the same -/
def w_fi (g g' : qM) : Prop := (∀ a, a = 9 ∨ a = 10 ∨ a = 11 ∨ (20 ≤ a ∧ a ≤ 27) ∨ a = 70 ∨ a = 74 → g' a = g a) ∧ ∀ j, j < 44 → g' 71 j = g 71 j
theorem w_R4.img {n W H z : Nat} {g g' : qM} (h : w_R4 n W H z g) (e : w_fi g g') (hK : w_KK n W H g') (hS : ∀ k, k < 4 → w_S k g') : w_R4 n W H z g' := by
  obtain ⟨hN, hT, _, hP, hF, _⟩ := h
  refine ⟨?_, ?_, hK, ?_, ?_, hS⟩
  · unfold w_N; rw [e.1 70 (by omega)]; exact hN
  · unfold w_TT
    rw [e.1 20 (by omega), e.1 21 (by omega), e.1 22 (by omega), e.1 23 (by omega), e.1 24 (by omega), e.1 25 (by omega), e.1 26 (by omega), e.1 27 (by omega)]
    exact hT.cg e.2
  · unfold w_P; rw [e.1 9 (by omega), e.1 70 (by omega), e.1 74 (by omega), e.1 10 (by omega)]; exact hP
  · rw [e.1 11 (by omega), e.1 70 (by omega)]; exact hF
theorem w_S.cg {k : Nat} {g g' : qM} (h : w_S k g) (e1 : g' 84 k = g 84 k) (e2 : g' 85 k = g 85 k) (e3 : g' (62 + 2 * k) = g (62 + 2 * k)) (e4 : g' (63 + 2 * k) = g (63 + 2 * k)) (e5 : ∀ j, j < 40 → g' 86 (40 * k + j) = g 86 (40 * k + j)) : w_S k g' := by
  unfold w_S
  rw [e1, e2, e3, e4]
  rcases h with h | ⟨l, v, a1, a2, a3, a4, a5, a6, a7⟩
  · exact Or.inl h
  · exact Or.inr ⟨l, v, a1, a2, a3, a4, a5, a6, fun j hj => by rw [e5 j hj]; exact a7 j hj⟩
theorem w_KK.cg {n W H : Nat} {g g' : qM} (h : w_KK n W H g) (e8 : g' 8 7 = g 8 7) (e72 : g' 72 = g 72) (e : ∀ a, 45 ≤ a → a ≤ 60 → g' a = g a) (e71 : ∀ j, 44 ≤ j → g' 71 j = g 71 j) : w_KK n W H g' := by
  unfold w_KK
  rw [e8, e72, e 45 (by omega) (by omega), e 46 (by omega) (by omega), e 47 (by omega) (by omega), e 48 (by omega) (by omega), e 49 (by omega) (by omega), e 50 (by omega) (by omega), e 51 (by omega) (by omega), e 52 (by omega) (by omega), e 53 (by omega) (by omega), e 54 (by omega) (by omega), e 55 (by omega) (by omega), e 56 (by omega) (by omega), e 57 (by omega) (by omega), e 58 (by omega) (by omega), e 59 (by omega) (by omega), e 60 (by omega) (by omega), show (fun j => g' 71 (44 + j)) = (fun j => g 71 (44 + j)) from funext (fun j => e71 _ (by omega)), show (fun j => g' 71 (88 + j)) = (fun j => g 71 (88 + j)) from funext (fun j => e71 _ (by omega))]
  exact h
theorem k_bits : ∀ m, m < 4 → (s_bit (Int32.ofNat m) 0 = Int32.ofNat (m % 2) ∧ s_bit (Int32.ofNat m) 1 = Int32.ofNat (m / 2) ∧ (Int32.ofNat m ||| ((1 : Int32) <<< ((0 : Int32) &&& 31))) = Int32.ofNat (m / 2 * 2 + 1) ∧ (Int32.ofNat m ||| ((1 : Int32) <<< ((1 : Int32) &&& 31))) = Int32.ofNat (m % 2 + 2)) := fun m hm => by
  have z : (List.range 4).all (fun m => decide (s_bit (Int32.ofNat m) 0 = Int32.ofNat (m % 2) ∧ s_bit (Int32.ofNat m) 1 = Int32.ofNat (m / 2) ∧ (Int32.ofNat m ||| ((1 : Int32) <<< ((0 : Int32) &&& 31))) = Int32.ofNat (m / 2 * 2 + 1) ∧ (Int32.ofNat m ||| ((1 : Int32) <<< ((1 : Int32) &&& 31))) = Int32.ofNat (m % 2 + 2))) = true := by decide +kernel
  exact of_decide_eq_true (List.all_eq_true.mp z m (List.mem_range.mpr hm))
theorem f_rd_cg {tl tl' : Nat → Nat} {z j0 : Nat} (h : ∀ j, j + 1 < z → tl j = tl' j) : ∀ k i, f_rd tl z j0 k i = f_rd tl' z j0 k i
  | 0, _ => rfl
  | k + 1, i => by
    unfold f_rd
    by_cases e : z ≤ j0 + 2 * i + 1
    · rw [if_pos e, if_pos e]
    · rw [if_neg e, if_neg e, h (j0 + 2 * i) (by omega), f_rd_cg h k (i + 1)]
theorem n_tl_cg {n j : Nat} {row row' : Nat → Int32} (h1 : row j = row' j) (h2 : row (j + 1) = row' (j + 1)) : n_tl n row j = n_tl n row' j := by
  unfold n_tl
  rw [h1, h2]
theorem f_ws_cg {row row' : Nat → Int32} {j0 : Nat} : ∀ k i f, (∀ x, i ≤ x → x < i + k → row (j0 + 2 * x) = row' (j0 + 2 * x) ∧ row (j0 + 2 * x + 1) = row' (j0 + 2 * x + 1)) → f_ws row j0 k i f = f_ws row' j0 k i f
  | 0, _, _, _ => rfl
  | k + 1, i, f, h => by
    unfold f_ws
    rw [(h i (by omega) (by omega)).1, (h i (by omega) (by omega)).2]
    exact f_ws_cg k (i + 1) _ (fun x h1 h2 => h x (by omega) (by omega))
/-- MOODS read into both: alike, and in order -/
theorem f_ws_ok {row : Nat → Int32} {j0 n : Nat} (h5 : n ≤ 5) : ∀ k i f f', (∀ x, i ≤ x → x < i + k → n_tl n row (j0 + 2 * x) ≠ 0) → (∀ p, p < n → f p = f' p) → (∀ q, q < 5 → f' q = 0 ∨ f' q = 1 ∨ f' q = 2 ∨ f' q = 3) → (∀ p, p < n → f_ws row j0 k i f p = f_ws row j0 k i f' p) ∧ ∀ q, q < 5 → f_ws row j0 k i f' q = 0 ∨ f_ws row j0 k i f' q = 1 ∨ f_ws row j0 k i f' q = 2 ∨ f_ws row j0 k i f' q = 3
  | 0, _, _, _, _, h1, h2 => ⟨h1, h2⟩
  | k + 1, i, f, f', h, h1, h2 => by
    unfold f_ws
    obtain ⟨⟨p0, hp0, e0⟩, m, hm, em⟩ := n_tl_1 (by omega) (h i (by omega) (by omega))
    have ep : (row (j0 + 2 * i)).toInt.toNat = p0 := by rw [e0, q_nat (by omega)]; rfl
    rw [ep, em]
    refine f_ws_ok h5 k (i + 1) _ _ (fun x h3 h4 => h x (by omega) (by omega)) (fun p hp => ?_) (fun q hq => ?_)
    · by_cases e : p = p0
      · rw [e, s_set_i, s_set_i]
      · rw [s_set_ne _ _ e, s_set_ne _ _ e]
        exact h1 p hp
    · by_cases e : q = p0
      · rw [e, s_set_i]
        rcases (show m = 0 ∨ m = 1 ∨ m = 2 ∨ m = 3 by omega) with y | y | y | y
        · exact Or.inl (by rw [y]; rfl)
        · exact Or.inr (Or.inl (by rw [y]; rfl))
        · exact Or.inr (Or.inr (Or.inl (by rw [y]; rfl)))
        · exact Or.inr (Or.inr (Or.inr (by rw [y]; rfl)))
      · rw [s_set_ne _ _ e]
        exact h2 q hq
theorem k_lane {l : Nat} {g : qM} (hl : l ≤ 2) : d_isLane (Int32.ofNat l) g = 1 := by
  unfold d_isLane
  rw [if_neg (show ¬ Int32.ofNat l < 0 from fun y => absurd ((q_lt (j := 0) (by omega) (by omega)).mp y) (by omega)), if_neg (show ¬ (2 : Int32) < Int32.ofNat l from fun y => absurd ((q_lt (i := 2) (by omega) (by omega)).mp y) (by omega))]
theorem k_nne {l : Nat} (h : l < 1000) : ¬ Int32.ofNat l = i_none := fun y => by
  have := congrArg Int32.toInt y
  rw [q_nat (by omega), show (i_none : Int32).toInt = -4 from by decide] at this
  omega
theorem k_nm1 {l : Nat} (h : l < 1000) : ¬ Int32.ofNat l = Int32.ofInt (-1) := fun y => by
  have := congrArg Int32.toInt y
  rw [q_nat (by omega), show (Int32.ofInt (-1)).toInt = -1 from by decide] at this
  omega
theorem k_f0 (f : Int32) : f + ((2 : Int32) * (0 : Int32)) = f := by
  rw [show (2 : Int32) * (0 : Int32) = 0 from by decide, Int32.add_zero]
theorem pr_count (x : Int32) (g : qM) (u : qW) (h : w_R g) : w_2 143 224 [.int x] g u := by
  obtain ⟨n, W, H, z, h⟩ := h
  have h5 := h.n5
  have h25 := h.wh
  have ok := h.ok
  have cs := h.cs
  have hgo := h.hgo
  obtain ⟨hn, hW, hH⟩ := h.1
  have hn2 : g 20 3 = Int32.ofNat n := h.2.1.1.2.2.2.1
  have hW2 : g 20 0 = Int32.ofNat W := h.2.1.1.1
  have hH2 : g 20 1 = Int32.ofNat H := h.2.1.1.2.1
  by_cases hx : x.toInt < 0 ∨ 6 < x.toInt
  · exact ⟨_, _, _, _, _, cb_count g u hx, rg_countb u ok (w_sms0 h5).1 hn h5 hx, n, W, H, z, h.fr s_start_fr⟩
  · obtain ⟨m, m0, m1, rfl⟩ : v_rg 0 6 x := v_nat (by omega) (by omega)
    rcases (show m = 0 ∨ m = 1 ∨ m = 2 ∨ m = 3 ∨ m = 4 ∨ m = 5 ∨ m = 6 by omega) with e | e | e | e | e | e | e
    · subst e
      have ea : s_ct (fun p => if g 21 p = g 24 p then (1 : Int32) else 0) n 0 0 = f_at n (s_start g) := by
        exact w_at_c ok cs hgo
      have q := rg_count0 u ok (w_sms0 h5).1 hn h5
      rw [← ea] at q
      exact ⟨_, _, _, _, _, cg_count0 g u hn2 (by omega), q, n, W, H, z, h.fr s_start_fr⟩
    · subst e
      have ea : s_ct (fun p => if g 24 p = i_none then (0 : Int32) else 1) n 0 0 = s_ct (p_hvs (s_start g)) n 0 0 := by
        exact s_ct_cg n 0 0 (fun p _ hp => by
          have hp : p < n := by omega
          unfold p_hvs
          rw [show s_start g 71 (15 + p) = g 24 p from (h.2.1.2.2.2.2.1 p hp).2.2.2.symm])
      have q := rg_count1 u ok (w_sms0 h5).1 hn h5
      rw [← ea] at q
      exact ⟨_, _, _, _, _, cg_count1 g u hn2 (by omega), q, n, W, H, z, h.fr s_start_fr⟩
    · subst e
      have ea : g 20 6 = g 71 27 := by
        exact h.2.1.1.2.2.2.2.2.2.1.trans h.2.1.1.2.2.2.2.2.2.2.symm
      have q := rg_count2 u ok (w_sms0 h5).1 hn h5
      rw [← ea] at q
      exact ⟨_, _, _, _, _, cg_count2 g u hn2 (by omega), q, n, W, H, z, h.fr s_start_fr⟩
    · subst e
      have ea : d_bc (g 8 7) g = ((if g 72 0 = 0 then (0 : Int32) else 1) + (if g 72 1 = 0 then (0 : Int32) else 1)) := by
        obtain ⟨⟨mm, k1, k2, k3, k4⟩, _⟩ := h.2.2.1
        rw [k2]
        rcases (show mm = 0 ∨ mm = 1 ∨ mm = 2 ∨ mm = 3 by omega) with e | e | e | e
        · subst e; rw [if_pos (k3.mpr rfl), if_pos (k4.mpr rfl)]; unfold d_bc; decide
        · subst e; rw [if_neg (fun y => absurd (k3.mp y) (by omega)), if_pos (k4.mpr rfl)]; unfold d_bc; decide
        · subst e; rw [if_pos (k3.mpr rfl), if_neg (fun y => absurd (k4.mp y) (by omega))]; unfold d_bc; decide
        · subst e; rw [if_neg (fun y => absurd (k3.mp y) (by omega)), if_neg (fun y => absurd (k4.mp y) (by omega))]; unfold d_bc; decide
      have q := rg_count3 u ok (w_sms0 h5).1 hn h5
      rw [← ea] at q
      exact ⟨_, _, _, _, _, cg_count3 g u hn2 (by omega), q, n, W, H, z, h.fr s_start_fr⟩
    · subst e
      have ea : g 9 1 = g 70 13 := by
        obtain ⟨s, s1, s2, s3, _⟩ := h.2.2.2.1
        exact s2.trans s3.symm
      have q := rg_count4 u ok (w_sms0 h5).1 hn h5
      rw [← ea] at q
      exact ⟨_, _, _, _, _, cg_count4 g u hn2 (by omega), q, n, W, H, z, h.fr s_start_fr⟩
    · subst e
      have ea : (if d_isNothing0 g = 0 then g 62 1 else i_none) = (if g 84 0 = i_none then i_none else g 85 0) := by
        unfold d_isNothing0
        rcases h.2.2.2.2.2 0 (by omega) with ⟨a1, a2⟩ | ⟨l, v, a1, a2, a3, a4, a5, a6, a7⟩
        · rw [show g 62 1 = _ from a2, if_pos rfl, if_neg (by decide), if_pos a1]
        · rw [show g 62 1 = Int32.ofNat v from a5, if_neg (k_nm1 (by omega)), if_pos rfl, a3, if_neg (k_nne (by omega)), a6]
      have q := rg_count5 u ok (w_sms0 h5).1 hn h5
      rw [← ea] at q
      exact ⟨_, _, _, _, _, cg_count5 g u hn2 (by omega), q, n, W, H, z, h.fr s_start_fr⟩
    · subst e
      have ea : s_ct (fun p => if g 22 p = 0 then (1 : Int32) else 0) n 0 0 = s_ct (p_nom (s_start g)) n 0 0 := by
        exact s_ct_cg n 0 0 (fun p _ hp => by
          have hp : p < n := by omega
          unfold p_nom
          rw [show s_start g 71 (5 + p) = g 22 p from (h.2.1.2.2.2.2.1 p hp).2.1.symm])
      have q := rg_count6 u ok (w_sms0 h5).1 hn h5
      rw [← ea] at q
      exact ⟨_, _, _, _, _, cg_count6 g u hn2 (by omega), q, n, W, H, z, h.fr s_start_fr⟩
theorem pr_torn (g : qM) (u : qW) (h : w_R g) : q_BS 142 [.ref 8] g u (some (.int (d_torn g)), g, u) ∧ q_BS 223 [.ref 70] g u (some (.int (d_rtorn g)), g, u) := ⟨b_torn g u, b_rtorn g u⟩
theorem pr_keep0 (g : qM) (u : qW) (h : w_R g) : w_2 128 216 [.int (0 : Int32)] g u := by
  obtain ⟨n, W, H, z, h⟩ := h
  obtain ⟨⟨m, m4, k0, ka, kb1⟩, kc, kd⟩ := h.2.2.1
  have kb := kd
  have zz := k_bits m m4
  have q1 := cg_keep0 g u
  rw [k0, zz.1, zz.2.2.1] at q1
  have q2 := rg_keep0 (q_up (s_cpy 45 20 g) 8 7 (Int32.ofNat (m / 2 * 2 + 1))) u
  have ea : (if (q_up (s_cpy 45 20 g) 8 7 (Int32.ofNat (m / 2 * 2 + 1))) 72 0 = 0 then (0 : Int32) else 1) = Int32.ofNat (m % 2) := by
    rw [q_up_ne (by decide), s_cpy_o (by omega)]
    rcases (show m = 0 ∨ m = 1 ∨ m = 2 ∨ m = 3 by omega) with e | e | e | e <;> subst e
    · rw [if_pos (ka.mpr rfl)]; rfl
    · rw [if_neg (fun y => absurd (ka.mp y) (by omega))]; rfl
    · rw [if_pos (ka.mpr rfl)]; rfl
    · rw [if_neg (fun y => absurd (ka.mp y) (by omega))]; rfl
  rw [ea] at q2
  have eo : ∀ a, a ≠ 71 → (s_cps 44 0 44 (q_up (q_up (s_cpy 45 20 g) 8 7 (Int32.ofNat (m / 2 * 2 + 1))) 72 0 1)) a = (q_up (q_up (s_cpy 45 20 g) 8 7 (Int32.ofNat (m / 2 * 2 + 1))) 72 0 1) a := fun a ha => by
    funext j
    show (if a = 71 then _ else (q_up (q_up (s_cpy 45 20 g) 8 7 (Int32.ofNat (m / 2 * 2 + 1))) 72 0 1) a j) = _
    rw [if_neg ha]
  have e72o : (s_cps 44 0 44 (q_up (q_up (s_cpy 45 20 g) 8 7 (Int32.ofNat (m / 2 * 2 + 1))) 72 0 1)) 72 1 = g 72 1 := by
    rw [eo 72 (by decide), q_up_at, if_neg (by decide), q_up_ne (by decide), s_cpy_o (by omega)]
  refine ⟨_, _, _, _, _, q1, q2, n, W, H, z, h.img ⟨fun a ha => ?_, fun j hj => ?_⟩ ⟨⟨(m / 2 * 2 + 1), by omega, ?_, ?_, ?_⟩, ?_, ?_⟩ (fun k hk => ?_)⟩
  · rw [eo a (by omega), q_up_ne (by omega), q_up_ne (by omega), s_cpy_o (by omega)]
  · show (if (71 : Nat) = 71 then (if 44 ≤ j ∧ j < 44 + 44 then _ else (q_up (q_up (s_cpy 45 20 g) 8 7 (Int32.ofNat (m / 2 * 2 + 1))) 72 0 1) 71 j) else _) = _
    rw [if_pos rfl, if_neg (by omega), q_up_ne (by decide), q_up_ne (by decide), s_cpy_o (by omega)]
  · rw [eo 8 (by decide), q_up_ne (by decide), q_up_at, if_pos rfl]
  · exact ⟨fun y => absurd (show (1 : Int32) = 0 from y) (by decide), fun y => absurd y (by omega)⟩
  · rw [e72o, kb1]; omega
  · have hh : True := trivial
    intro hx
    refine ⟨z, ?_⟩
    have y := TT.copy (a := 45) (b := 20) (g := g) (by omega) h.2.1
    rw [eo 45 (by decide), eo 46 (by decide), eo 47 (by decide), eo 48 (by decide), eo 49 (by decide), eo 50 (by decide), eo 51 (by decide), eo 52 (by decide)]
    rw [q_up_ne (by decide), q_up_ne (by decide), q_up_ne (by decide), q_up_ne (by decide), q_up_ne (by decide), q_up_ne (by decide), q_up_ne (by decide), q_up_ne (by decide), q_up_ne (by decide), q_up_ne (by decide), q_up_ne (by decide), q_up_ne (by decide), q_up_ne (by decide), q_up_ne (by decide), q_up_ne (by decide), q_up_ne (by decide)]
    refine y.cg (fun j hj => ?_)
    show (if (71 : Nat) = 71 then (if 44 ≤ 44 + j ∧ 44 + j < 44 + 44 then (q_up (q_up (s_cpy 45 20 g) 8 7 (Int32.ofNat (m / 2 * 2 + 1))) 72 0 1) 71 (44 + j - 44 + 0) else _) else _) = g 71 j
    rw [if_pos rfl, if_pos (by omega), q_up_ne (by decide), q_up_ne (by decide), s_cpy_o (by omega), show 44 + j - 44 + 0 = j by omega]
  · have e53 : ∀ a, 53 ≤ a → a ≤ 60 → (s_cps 44 0 44 (q_up (q_up (s_cpy 45 20 g) 8 7 (Int32.ofNat (m / 2 * 2 + 1))) 72 0 1)) a = g a := fun a h1 h2 => by
      rw [eo a (by omega), q_up_ne (by omega), q_up_ne (by omega), s_cpy_o (by omega)]
    intro hx
    obtain ⟨y, hy⟩ := kb (fun e => hx (e72o.trans e))
    refine ⟨y, ?_⟩
    rw [e53 53 (by omega) (by omega), e53 54 (by omega) (by omega), e53 55 (by omega) (by omega), e53 56 (by omega) (by omega), e53 57 (by omega) (by omega), e53 58 (by omega) (by omega), e53 59 (by omega) (by omega), e53 60 (by omega) (by omega)]
    refine hy.cg (fun j hj => ?_)
    show (if (71 : Nat) = 71 then (if 44 ≤ 88 + j ∧ 88 + j < 44 + 44 then _ else (q_up (q_up (s_cpy 45 20 g) 8 7 (Int32.ofNat (m / 2 * 2 + 1))) 72 0 1) 71 (88 + j)) else _) = _
    rw [if_pos rfl, if_neg (by omega), q_up_ne (by decide), q_up_ne (by decide), s_cpy_o (by omega)]
  · refine (h.2.2.2.2.2 k hk).cg ?_ ?_ ?_ ?_ (fun j hj => ?_)
    · rw [eo 84 (by decide), q_up_ne (by decide), q_up_ne (by decide), s_cpy_o (by omega)]
    · rw [eo 85 (by decide), q_up_ne (by decide), q_up_ne (by decide), s_cpy_o (by omega)]
    · rw [eo (62 + 2 * k) (by omega), q_up_ne (by omega), q_up_ne (by omega), s_cpy_o (by omega)]
    · rw [eo (63 + 2 * k) (by omega), q_up_ne (by omega), q_up_ne (by omega), s_cpy_o (by omega)]
    · rw [eo 86 (by decide), q_up_ne (by decide), q_up_ne (by decide), s_cpy_o (by omega)]
theorem pr_back0 (g : qM) (u : qW) (h : w_R g) : w_2 129 218 [.int (0 : Int32)] g u := by
  obtain ⟨n, W, H, z, h⟩ := h
  obtain ⟨⟨m, m4, k0, ka, kb⟩, kc, kd⟩ := h.2.2.1
  have zz := (k_bits m m4).1
  by_cases hx : g 72 0 = 0
  · have hm := ka.mp hx
    exact w_2n h (cg_back0n g u (by rw [k0, zz, hm]; rfl)) (rg_back0n g u hx)
  · have hm : m % 2 = 1 := by
      have : ¬ m % 2 = 0 := fun y => hx (ka.mpr y)
      omega
    obtain ⟨y, hy⟩ := kc hx
    have q1 := cg_back0 g u (by rw [k0, zz, hm]; decide)
    have q2 := rg_back0 (s_cpy 20 45 g) u (by rw [s_cpy_o (by omega)]; exact hx)
    have ea : (s_cps 0 44 44 (s_cpy 20 45 g)) 71 26 = s_cpy 20 45 g 20 5 := by
      rw [show s_cpy 20 45 g 20 5 = g 45 5 from s_cpy_f (by omega), hy.1.2.2.2.2.2.1]
      show (if (71 : Nat) = 71 then (if 0 ≤ 26 ∧ 26 < 0 + 44 then (s_cpy 20 45 g) 71 (26 - 0 + 44) else _) else _) = g 71 (44 + 26)
      rw [if_pos rfl, if_pos (by omega), s_cpy_o (by omega)]
    rw [ea] at q2
    have eo : ∀ a, a ≠ 71 → (s_cps 0 44 44 (s_cpy 20 45 g)) a = s_cpy 20 45 g a := fun a ha => by
      funext j
      show (if a = 71 then _ else (s_cpy 20 45 g) a j) = _
      rw [if_neg ha]
    refine ⟨_, _, _, _, _, q1, q2, n, W, H, y, h.town ⟨fun a ha => ?_, ⟨?_, ?_, ?_⟩, fun j hj => ?_, fun j hj => ?_⟩ ?_⟩
    · rw [eo a (by omega), s_cpy_o (by omega)]
    · rw [eo 8 (by decide), s_cpy_o (by omega)]
    · rw [eo 9 (by decide), s_cpy_o (by omega)]
    · rw [eo 11 (by decide), s_cpy_o (by omega)]
    · rw [eo 70 (by decide), s_cpy_o (by omega)]
    · show (if (71 : Nat) = 71 then (if 0 ≤ j ∧ j < 0 + 44 then _ else (s_cpy 20 45 g) 71 j) else _) = _
      rw [if_pos rfl, if_neg (by omega), s_cpy_o (by omega)]
    · unfold w_TT
      rw [eo 20 (by decide), eo 21 (by decide), eo 22 (by decide), eo 23 (by decide), eo 24 (by decide), eo 25 (by decide), eo 26 (by decide), eo 27 (by decide)]
      refine (TT.copy (a := 20) (b := 45) (g := g) (by omega) hy).cg (fun j hj => ?_)
      show (if (71 : Nat) = 71 then (if 0 ≤ j ∧ j < 0 + 44 then (s_cpy 20 45 g) 71 (j - 0 + 44) else _) else _) = g 71 (44 + j)
      rw [if_pos rfl, if_pos (by omega), s_cpy_o (by omega), show j - 0 + 44 = 44 + j by omega]
theorem pr_keep1 (g : qM) (u : qW) (h : w_R g) : w_2 128 216 [.int (1 : Int32)] g u := by
  obtain ⟨n, W, H, z, h⟩ := h
  obtain ⟨⟨m, m4, k0, ka, kb1⟩, kc, kd⟩ := h.2.2.1
  have kb := kc
  have zz := k_bits m m4
  have q1 := cg_keep1 g u
  rw [k0, zz.2.1, zz.2.2.2] at q1
  have q2 := rg_keep1 (q_up (s_cpy 53 20 g) 8 7 (Int32.ofNat (m % 2 + 2))) u
  have ea : (if (q_up (s_cpy 53 20 g) 8 7 (Int32.ofNat (m % 2 + 2))) 72 1 = 0 then (0 : Int32) else 1) = Int32.ofNat (m / 2) := by
    rw [q_up_ne (by decide), s_cpy_o (by omega)]
    rcases (show m = 0 ∨ m = 1 ∨ m = 2 ∨ m = 3 by omega) with e | e | e | e <;> subst e
    · rw [if_pos (kb1.mpr rfl)]; rfl
    · rw [if_pos (kb1.mpr rfl)]; rfl
    · rw [if_neg (fun y => absurd (kb1.mp y) (by omega))]; rfl
    · rw [if_neg (fun y => absurd (kb1.mp y) (by omega))]; rfl
  rw [ea] at q2
  have eo : ∀ a, a ≠ 71 → (s_cps 88 0 44 (q_up (q_up (s_cpy 53 20 g) 8 7 (Int32.ofNat (m % 2 + 2))) 72 1 1)) a = (q_up (q_up (s_cpy 53 20 g) 8 7 (Int32.ofNat (m % 2 + 2))) 72 1 1) a := fun a ha => by
    funext j
    show (if a = 71 then _ else (q_up (q_up (s_cpy 53 20 g) 8 7 (Int32.ofNat (m % 2 + 2))) 72 1 1) a j) = _
    rw [if_neg ha]
  have e72o : (s_cps 88 0 44 (q_up (q_up (s_cpy 53 20 g) 8 7 (Int32.ofNat (m % 2 + 2))) 72 1 1)) 72 0 = g 72 0 := by
    rw [eo 72 (by decide), q_up_at, if_neg (by decide), q_up_ne (by decide), s_cpy_o (by omega)]
  refine ⟨_, _, _, _, _, q1, q2, n, W, H, z, h.img ⟨fun a ha => ?_, fun j hj => ?_⟩ ⟨⟨(m % 2 + 2), by omega, ?_, ?_, ?_⟩, ?_, ?_⟩ (fun k hk => ?_)⟩
  · rw [eo a (by omega), q_up_ne (by omega), q_up_ne (by omega), s_cpy_o (by omega)]
  · show (if (71 : Nat) = 71 then (if 88 ≤ j ∧ j < 88 + 44 then _ else (q_up (q_up (s_cpy 53 20 g) 8 7 (Int32.ofNat (m % 2 + 2))) 72 1 1) 71 j) else _) = _
    rw [if_pos rfl, if_neg (by omega), q_up_ne (by decide), q_up_ne (by decide), s_cpy_o (by omega)]
  · rw [eo 8 (by decide), q_up_ne (by decide), q_up_at, if_pos rfl]
  · rw [e72o, ka]; omega
  · exact ⟨fun y => absurd (show (1 : Int32) = 0 from y) (by decide), fun y => absurd y (by omega)⟩
  · have e53 : ∀ a, 45 ≤ a → a ≤ 52 → (s_cps 88 0 44 (q_up (q_up (s_cpy 53 20 g) 8 7 (Int32.ofNat (m % 2 + 2))) 72 1 1)) a = g a := fun a h1 h2 => by
      rw [eo a (by omega), q_up_ne (by omega), q_up_ne (by omega), s_cpy_o (by omega)]
    intro hx
    obtain ⟨y, hy⟩ := kb (fun e => hx (e72o.trans e))
    refine ⟨y, ?_⟩
    rw [e53 45 (by omega) (by omega), e53 46 (by omega) (by omega), e53 47 (by omega) (by omega), e53 48 (by omega) (by omega), e53 49 (by omega) (by omega), e53 50 (by omega) (by omega), e53 51 (by omega) (by omega), e53 52 (by omega) (by omega)]
    refine hy.cg (fun j hj => ?_)
    show (if (71 : Nat) = 71 then (if 88 ≤ 44 + j ∧ 44 + j < 88 + 44 then _ else (q_up (q_up (s_cpy 53 20 g) 8 7 (Int32.ofNat (m % 2 + 2))) 72 1 1) 71 (44 + j)) else _) = _
    rw [if_pos rfl, if_neg (by omega), q_up_ne (by decide), q_up_ne (by decide), s_cpy_o (by omega)]
  · have hh : True := trivial
    intro hx
    refine ⟨z, ?_⟩
    have y := TT.copy (a := 53) (b := 20) (g := g) (by omega) h.2.1
    rw [eo 53 (by decide), eo 54 (by decide), eo 55 (by decide), eo 56 (by decide), eo 57 (by decide), eo 58 (by decide), eo 59 (by decide), eo 60 (by decide)]
    rw [q_up_ne (by decide), q_up_ne (by decide), q_up_ne (by decide), q_up_ne (by decide), q_up_ne (by decide), q_up_ne (by decide), q_up_ne (by decide), q_up_ne (by decide), q_up_ne (by decide), q_up_ne (by decide), q_up_ne (by decide), q_up_ne (by decide), q_up_ne (by decide), q_up_ne (by decide), q_up_ne (by decide), q_up_ne (by decide)]
    refine y.cg (fun j hj => ?_)
    show (if (71 : Nat) = 71 then (if 88 ≤ 88 + j ∧ 88 + j < 88 + 44 then (q_up (q_up (s_cpy 53 20 g) 8 7 (Int32.ofNat (m % 2 + 2))) 72 1 1) 71 (88 + j - 88 + 0) else _) else _) = g 71 j
    rw [if_pos rfl, if_pos (by omega), q_up_ne (by decide), q_up_ne (by decide), s_cpy_o (by omega), show 88 + j - 88 + 0 = j by omega]
  · refine (h.2.2.2.2.2 k hk).cg ?_ ?_ ?_ ?_ (fun j hj => ?_)
    · rw [eo 84 (by decide), q_up_ne (by decide), q_up_ne (by decide), s_cpy_o (by omega)]
    · rw [eo 85 (by decide), q_up_ne (by decide), q_up_ne (by decide), s_cpy_o (by omega)]
    · rw [eo (62 + 2 * k) (by omega), q_up_ne (by omega), q_up_ne (by omega), s_cpy_o (by omega)]
    · rw [eo (63 + 2 * k) (by omega), q_up_ne (by omega), q_up_ne (by omega), s_cpy_o (by omega)]
    · rw [eo 86 (by decide), q_up_ne (by decide), q_up_ne (by decide), s_cpy_o (by omega)]
theorem pr_back1 (g : qM) (u : qW) (h : w_R g) : w_2 129 218 [.int (1 : Int32)] g u := by
  obtain ⟨n, W, H, z, h⟩ := h
  obtain ⟨⟨m, m4, k0, ka, kb⟩, kc, kd⟩ := h.2.2.1
  have zz := (k_bits m m4).2.1
  by_cases hx : g 72 1 = 0
  · have hm := kb.mp hx
    exact w_2n h (cg_back1n g u (by rw [k0, zz, hm]; rfl)) (rg_back1n g u hx)
  · have hm : m / 2 = 1 := by
      have : ¬ m / 2 = 0 := fun y => hx (kb.mpr y)
      omega
    obtain ⟨y, hy⟩ := kd hx
    have q1 := cg_back1 g u (by rw [k0, zz, hm]; decide)
    have q2 := rg_back1 (s_cpy 20 53 g) u (by rw [s_cpy_o (by omega)]; exact hx)
    have ea : (s_cps 0 88 44 (s_cpy 20 53 g)) 71 26 = s_cpy 20 53 g 20 5 := by
      rw [show s_cpy 20 53 g 20 5 = g 53 5 from s_cpy_f (by omega), hy.1.2.2.2.2.2.1]
      show (if (71 : Nat) = 71 then (if 0 ≤ 26 ∧ 26 < 0 + 44 then (s_cpy 20 53 g) 71 (26 - 0 + 88) else _) else _) = g 71 (88 + 26)
      rw [if_pos rfl, if_pos (by omega), s_cpy_o (by omega)]
    rw [ea] at q2
    have eo : ∀ a, a ≠ 71 → (s_cps 0 88 44 (s_cpy 20 53 g)) a = s_cpy 20 53 g a := fun a ha => by
      funext j
      show (if a = 71 then _ else (s_cpy 20 53 g) a j) = _
      rw [if_neg ha]
    refine ⟨_, _, _, _, _, q1, q2, n, W, H, y, h.town ⟨fun a ha => ?_, ⟨?_, ?_, ?_⟩, fun j hj => ?_, fun j hj => ?_⟩ ?_⟩
    · rw [eo a (by omega), s_cpy_o (by omega)]
    · rw [eo 8 (by decide), s_cpy_o (by omega)]
    · rw [eo 9 (by decide), s_cpy_o (by omega)]
    · rw [eo 11 (by decide), s_cpy_o (by omega)]
    · rw [eo 70 (by decide), s_cpy_o (by omega)]
    · show (if (71 : Nat) = 71 then (if 0 ≤ j ∧ j < 0 + 44 then _ else (s_cpy 20 53 g) 71 j) else _) = _
      rw [if_pos rfl, if_neg (by omega), s_cpy_o (by omega)]
    · unfold w_TT
      rw [eo 20 (by decide), eo 21 (by decide), eo 22 (by decide), eo 23 (by decide), eo 24 (by decide), eo 25 (by decide), eo 26 (by decide), eo 27 (by decide)]
      refine (TT.copy (a := 20) (b := 53) (g := g) (by omega) hy).cg (fun j hj => ?_)
      show (if (71 : Nat) = 71 then (if 0 ≤ j ∧ j < 0 + 44 then (s_cpy 20 53 g) 71 (j - 0 + 88) else _) else _) = g 71 (88 + j)
      rw [if_pos rfl, if_pos (by omega), s_cpy_o (by omega), show j - 0 + 88 = 88 + j by omega]
theorem pr_keep (x : Int32) (g : qM) (u : qW) (h : w_R g) : w_2 128 216 [.int x] g u := by
  obtain ⟨n, W, H, z, h⟩ := h
  have h5 := h.n5
  have h25 := h.wh
  have ok := h.ok
  have cs := h.cs
  have hgo := h.hgo
  obtain ⟨hn, hW, hH⟩ := h.1
  have hn2 : g 20 3 = Int32.ofNat n := h.2.1.1.2.2.2.1
  have hW2 : g 20 0 = Int32.ofNat W := h.2.1.1.1
  have hH2 : g 20 1 = Int32.ofNat H := h.2.1.1.2.1
  by_cases hb : v_rg 0 1 x
  · obtain ⟨m, m0, m1, rfl⟩ := hb
    rcases (show m = 0 ∨ m = 1 by omega) with e | e
    · subst e
      exact pr_keep0 g u ⟨n, W, H, z, h⟩
    · subst e
      exact pr_keep1 g u ⟨n, W, H, z, h⟩
  · exact w_2n h (cb_keep g u hn2 hW2 hH2 (by omega) h25 x hb) (rb_keep g u hn hW hH (by omega) h25 x hb)
theorem pr_back (x : Int32) (g : qM) (u : qW) (h : w_R g) : w_2 129 218 [.int x] g u := by
  obtain ⟨n, W, H, z, h⟩ := h
  have h5 := h.n5
  have h25 := h.wh
  have ok := h.ok
  have cs := h.cs
  have hgo := h.hgo
  obtain ⟨hn, hW, hH⟩ := h.1
  have hn2 : g 20 3 = Int32.ofNat n := h.2.1.1.2.2.2.1
  have hW2 : g 20 0 = Int32.ofNat W := h.2.1.1.1
  have hH2 : g 20 1 = Int32.ofNat H := h.2.1.1.2.1
  by_cases hb : v_rg 0 1 x
  · obtain ⟨m, m0, m1, rfl⟩ := hb
    rcases (show m = 0 ∨ m = 1 by omega) with e | e
    · subst e
      exact pr_back0 g u ⟨n, W, H, z, h⟩
    · subst e
      exact pr_back1 g u ⟨n, W, H, z, h⟩
  · exact w_2n h (cb_back g u hn2 hW2 hH2 (by omega) h25 x hb) (rb_back g u hn hW hH (by omega) h25 x hb)
end
section
/-! BOTH SIDES of sheets. -/
/-- what stands outside sheet k is the same -/
def w_fs (k : Nat) (g g' : qM) : Prop := (∀ a, (a = 8 ∨ a = 9 ∨ a = 10 ∨ a = 11 ∨ (20 ≤ a ∧ a ≤ 27) ∨ (45 ≤ a ∧ a ≤ 72) ∨ a = 74) → a ≠ 62 + 2 * k → a ≠ 63 + 2 * k → g' a = g a) ∧ (∀ j, j ≠ k → g' 84 j = g 84 j ∧ g' 85 j = g 85 j) ∧ ∀ j, j < 40 * k ∨ 40 * k + 40 ≤ j → g' 86 j = g 86 j
theorem w_fs_rfl (k : Nat) (g : qM) : w_fs k g g := ⟨fun _ _ _ _ => rfl, fun _ _ => ⟨rfl, rfl⟩, fun _ _ => rfl⟩
theorem w_fs.up {k : Nat} {g g' : qM} (h : w_fs k g g') {a j : Nat} {x : Int32} (hk : k < 4) (ha : a = 62 + 2 * k ∨ a = 63 + 2 * k ∨ ((a = 84 ∨ a = 85) ∧ j = k) ∨ (a = 86 ∧ 40 * k ≤ j ∧ j < 40 * k + 40)) : w_fs k g (q_up g' a j x) := by
  refine ⟨fun b h1 h2 h3 => ?_, fun i hi => ⟨?_, ?_⟩, fun i hi => ?_⟩
  · rw [q_up_ne (by omega)]; exact h.1 b h1 h2 h3
  · rw [q_up_eq, if_neg (by omega)]; exact (h.2.1 i hi).1
  · rw [q_up_eq, if_neg (by omega)]; exact (h.2.1 i hi).2
  · rw [q_up_eq, if_neg (by omega)]; exact h.2.2 i hi
theorem w_fs.row {k : Nat} {g g' : qM} (h : w_fs k g g') (hk : k < 4) {f : Nat → Int32} {m a : Nat} (ha : a = 63 + 2 * k) : w_fs k g (s_row_ a f m g') := by
  subst ha
  refine ⟨fun b h1 h2 h3 => ?_, fun i hi => ⟨?_, ?_⟩, fun i hi => ?_⟩
  · funext j
    show (if b = 63 + 2 * k then _ else g' b j) = _
    rw [if_neg h3, h.1 b h1 h2 h3]
  · show (if 84 = 63 + 2 * k then _ else g' 84 i) = _
    rw [if_neg (by omega)]; exact (h.2.1 i hi).1
  · show (if 85 = 63 + 2 * k then _ else g' 85 i) = _
    rw [if_neg (by omega)]; exact (h.2.1 i hi).2
  · show (if 86 = 63 + 2 * k then _ else g' 86 i) = _
    rw [if_neg (by omega)]; exact h.2.2 i hi
theorem w_fs.zr {k : Nat} {g g' : qM} (h : w_fs k g g') {K : Nat} (hK : K = 40 * k) : w_fs k g (s_zr K 40 g') := by
  refine ⟨fun b h1 h2 h3 => ?_, fun i hi => ⟨(h.2.1 i hi).1, (h.2.1 i hi).2⟩, fun i hi => ?_⟩
  · funext j
    show (if b = 86 then _ else g' b j) = _
    rw [if_neg (by omega), h.1 b h1 h2 h3]
  · show (if (86 : Nat) = 86 then (if K ≤ i ∧ i < K + 40 then 0 else g' 86 i) else _) = _
    rw [if_pos rfl, if_neg (by omega)]
    exact h.2.2 i hi
theorem w_R4.shee {n W H z k : Nat} {g g' : qM} (h : w_R4 n W H z g) (hk : k < 4) (e : w_fs k g g') (hS : w_S k g') : w_R4 n W H z g' := by
  refine h.img ⟨fun a ha => e.1 a (by omega) (by omega) (by omega), fun j hj => by rw [e.1 71 (by omega) (by omega) (by omega)]⟩ (h.2.2.1.cg (by rw [e.1 8 (by omega) (by omega) (by omega)]) (e.1 72 (by omega) (by omega) (by omega)) (fun a h1 h2 => e.1 a (by omega) (by omega) (by omega)) (fun j hj => by rw [e.1 71 (by omega) (by omega) (by omega)])) (fun j hj => ?_)
  by_cases ej : j = k
  · rw [ej]; exact hS
  · exact (h.2.2.2.2.2 j hj).cg (e.2.1 j ej).1 (e.2.1 j ej).2 (e.1 _ (by omega) (by omega) (by omega)) (e.1 _ (by omega) (by omega) (by omega)) (fun i hi => e.2.2 _ (by omega))
theorem k_rd {g : qM} {F G : Nat → Int32} {fd rs : Int32} : (∀ a, a ≠ 70 → a ≠ 71 → a ≠ 87 → a ≠ 8 → a ≠ 22 → q_up (s_m71 G (s_had (q_up (s_m22 F g) 8 8 fd))) 70 33 rs a = g a) ∧ q_up (s_m71 G (s_had (q_up (s_m22 F g) 8 8 fd))) 70 33 rs 22 = F ∧ q_up (s_m71 G (s_had (q_up (s_m22 F g) 8 8 fd))) 70 33 rs 71 = (fun j => if 5 ≤ j ∧ j < 10 then G (j - 5) else g 71 j) ∧ q_up (s_m71 G (s_had (q_up (s_m22 F g) 8 8 fd))) 70 33 rs 8 7 = g 8 7 ∧ ∀ j, j ≠ 33 → q_up (s_m71 G (s_had (q_up (s_m22 F g) 8 8 fd))) 70 33 rs 70 j = g 70 j := by
  refine ⟨fun a h1 h2 h3 h4 h5 => ?_, ?_, ?_, ?_, fun j hj => ?_⟩
  · rw [q_up_ne h1]
    funext j
    unfold s_m71
    rw [if_neg h2, s_had_o h3, q_up_ne h4]
    unfold s_m22
    rw [if_neg h5]
  · rw [q_up_ne (by decide)]
    funext j
    unfold s_m71
    rw [if_neg (by decide), s_had_o (by decide), q_up_ne (by decide)]
    unfold s_m22
    rw [if_pos rfl]
  · rw [q_up_ne (by decide)]
    funext j
    unfold s_m71
    rw [if_pos rfl, s_had_o (by decide), q_up_ne (by decide)]
    unfold s_m22
    rw [if_neg (show ¬ 71 = 22 by decide)]
  · rw [q_up_ne (by decide)]
    unfold s_m71
    rw [if_neg (by decide), s_had_o (by decide), q_up_at, if_neg (by decide)]
    unfold s_m22
    rw [if_neg (by decide)]
  · rw [q_up_at, if_neg hj]
    unfold s_m71
    rw [if_neg (by decide), s_had_o (by decide), q_up_ne (by decide)]
    unfold s_m22
    rw [if_neg (by decide)]
theorem pr_sheet0 (x y : Int32) (g : qM) (u : qW) (h : w_R g) (hb : v_rg 0 2 x ∧ y ≤ (40 : Int32)) : w_2 130 219 [.int (0 : Int32), .int x, .int y] g u := by
  obtain ⟨n, W, H, z, h⟩ := h
  obtain ⟨⟨l, l0, l2, rfl⟩, hy⟩ := hb
  have q1 := b_sheet0 (Int32.ofNat l) y g u
  unfold d_sheet0 at q1
  rw [k_lane l2, if_neg (by decide), if_pos hy] at q1
  by_cases h0 : 0 ≤ y
  · rw [if_pos h0] at q1
    have hy2 := Int32.le_iff_toInt_le.mp hy
    have h02 := Int32.le_iff_toInt_le.mp h0
    obtain ⟨v, v0, v1, rfl⟩ : v_rg 0 40 y := v_nat h02 hy2
    have q2 := rg_sheet0 (s_row_ 63 (fun _ => (0 : Int32)) 40 (q_up (q_up g 62 2 (Int32.ofNat l)) 62 1 (Int32.ofNat v))) u l2 v1
    refine ⟨_, _, _, _, _, q1, q2, n, W, H, z, h.shee (k := 0) (by omega) ((((((w_fs_rfl 0 g).up (by omega) (by omega)).up (by omega) (by omega)).row (by omega) rfl).up (by omega) (by omega)).up (by omega) (by omega) |>.zr rfl) (Or.inr ⟨l, v, l2, v1, rfl, rfl, rfl, rfl, fun j hj => ?_⟩)⟩
    have e1 : (s_zr 0 40 (q_up (q_up (s_row_ 63 (fun _ => (0 : Int32)) 40 (q_up (q_up g 62 2 (Int32.ofNat l)) 62 1 (Int32.ofNat v))) 84 0 (Int32.ofNat l)) 85 0 (Int32.ofNat v))) 63 j = 0 := by
      unfold s_zr
      rw [if_neg (by decide), q_up_ne (by decide), q_up_ne (by decide)]
      unfold s_row_
      rw [if_pos rfl, if_pos hj]
    have e2 : (s_zr 0 40 (q_up (q_up (s_row_ 63 (fun _ => (0 : Int32)) 40 (q_up (q_up g 62 2 (Int32.ofNat l)) 62 1 (Int32.ofNat v))) 84 0 (Int32.ofNat l)) 85 0 (Int32.ofNat v))) 86 (40 * 0 + j) = 0 := by
      unfold s_zr
      rw [if_pos rfl, if_pos (by omega)]
    exact e1.trans e2.symm
  · rw [if_neg h0] at q1
    exact w_2n h q1 (rg_sheetn0 g u l2 (Int32.not_le.mp h0))
theorem pr_lay0 (x y : Int32) (g : qM) (u : qW) (h : w_R g) : w_2 134 221 [.int (0 : Int32), .int x, .int y] g u := by
  obtain ⟨n, W, H, z, h⟩ := h
  rcases h.2.2.2.2.2 0 (by omega) with ⟨a1, a2⟩ | ⟨l, v, a1, a2, a3, a4, a5, a6, a7⟩
  · have hf : d_faultAt0 x g = 1 := by
      unfold d_faultAt0 d_isNothing0
      rw [show g 62 1 = _ from a2, if_pos rfl, if_neg (by decide)]
    exact w_2n h (cg_lay0f1 g u hf) (rg_lay0f1 g u a1)
  · have hn : d_isNothing0 g = 0 := by
      unfold d_isNothing0
      rw [show g 62 1 = Int32.ofNat v from a5, if_neg (k_nm1 (by omega))]
    by_cases hb : v_one v x
    · obtain ⟨i, hi, rfl⟩ := hb
      have hf : d_faultAt0 (Int32.ofNat i) g = 0 := by
        unfold d_faultAt0
        rw [hn, if_pos rfl, if_neg (show ¬ Int32.ofNat i < 0 from fun y => absurd ((q_lt (j := 0) (by omega) (by omega)).mp y) (by omega)), if_pos (by rw [show g 62 1 = Int32.ofNat v from a5]; exact (q_lt (by omega) (by omega)).mpr hi)]
      have q1 := cg_lay0 (v := y) g u a2 a5 hi hf
      have q2 := rg_lay0 (v := y) (q_up g 63 i (s_ln (g 62 2) y)) u a2 a1 a6 a3 hi
      rw [show (q_up g 63 i (s_ln (g 62 2) y)) 84 0 = g 62 2 from a3.trans a4.symm] at q2
      refine ⟨_, _, _, _, _, q1, q2, n, W, H, z, h.shee (k := 0) (by omega) (((w_fs_rfl 0 g).up (by omega) (by omega)).up (by omega) (by omega)) (Or.inr ⟨l, v, a1, a2, a3, a4, a5, a6, fun j hj => ?_⟩)⟩
      rw [q_up_ne (by decide), q_up_at, q_up_at, q_up_ne (by decide)]
      by_cases e : j = i
      · rw [if_pos e, if_pos (by omega)]
      · rw [if_neg e, if_neg (by omega)]
        exact a7 j hj
    · have hno : ¬ (0 ≤ x.toInt ∧ x.toInt < (v : Int)) := fun y => hb ⟨x.toInt.toNat, by omega, q_of y.1⟩
      have hf : d_faultAt0 x g = 2 := by
        unfold d_faultAt0
        rw [hn, if_pos rfl]
        by_cases c : x < 0
        · rw [if_pos c]
        · rw [if_neg c, if_neg]
          intro c2
          rw [show g 62 1 = Int32.ofNat v from a5, Int32.lt_iff_toInt_lt, q_nat (by omega)] at c2
          rw [Int32.lt_iff_toInt_lt] at c
          have z0 : (0 : Int32).toInt = 0 := rfl
          exact hno ⟨by omega, c2⟩
      have hin : s_in (Int32.toInt64 x) (0 : Int64) (Int32.toInt64 ((g 85 0) - (1 : Int32))) = 0 := by
        refine Classical.byContradiction (fun c => hno ?_)
        rw [s_in_i, show (0 : Int64).toInt = 0 from rfl, Int32.toInt_toInt64, a6, s_sub (by rw [q_nat (by omega), show (1 : Int32).toInt = 1 from rfl]; omega) (by rw [q_nat (by omega), show (1 : Int32).toInt = 1 from rfl]; omega), q_nat (by omega), show (1 : Int32).toInt = 1 from rfl] at c
        omega
      exact w_2n h (cg_lay0f2 g u hf) (rg_lay0f2 g u (by rw [a3]; exact k_nne (by omega)) hin)
theorem k_fop0 {g : qM} {v : Nat} {f : Int32} (hn : d_isNothing0 g = 0) (hs : g 62 1 = Int32.ofNat v) (hv : v ≤ 40) (hI : ¬ (0 ≤ f.toInt ∧ f.toInt + 1 < (v : Int))) : ¬ d_fop0 f g = 0 := by
  unfold d_fop0 d_faultAt0
  rw [hn, if_pos rfl, if_pos rfl, hs]
  have z0 : (0 : Int32).toInt = 0 := rfl
  have z1 : (1 : Int32).toInt = 1 := rfl
  by_cases c : f < 0
  · rw [if_pos c, if_neg (by decide)]
    decide
  · rw [if_neg c]
    rw [Int32.lt_iff_toInt_lt] at c
    by_cases c2 : f < Int32.ofNat v
    · rw [if_pos c2, if_pos rfl]
      rw [Int32.lt_iff_toInt_lt, q_nat (by omega)] at c2
      have e : (f + 1).toInt = f.toInt + 1 := by rw [s_add (by omega) (by omega), z1]
      rw [if_neg (show ¬ f + 1 < 0 from fun y => by rw [Int32.lt_iff_toInt_lt, e] at y; omega), if_neg (show ¬ f + 1 < Int32.ofNat v from fun y => by rw [Int32.lt_iff_toInt_lt, e, q_nat (by omega)] at y; omega)]
      decide
    · rw [if_neg c2, if_neg (by decide)]
      decide
theorem pr_read0 (f : Int32) (l0 m : Nat) (g : qM) (u : qW) (h : w_R g) (hl : l0 ≤ 2) (hm : m ≤ 20) : w_2 138 222 [.int (0 : Int32), .int (Int32.ofNat l0), .int f, .int (Int32.ofNat m)] g u := by
  obtain ⟨n, W, H, z, h⟩ := h
  have h5 := h.n5
  have h25 := h.wh
  have ok := h.ok
  have cs := h.cs
  have hgo := h.hgo
  obtain ⟨hn, hW, hH⟩ := h.1
  have hn2 : g 20 3 = Int32.ofNat n := h.2.1.1.2.2.2.1
  have hW2 : g 20 0 = Int32.ofNat W := h.2.1.1.1
  have hH2 : g 20 1 = Int32.ofNat H := h.2.1.1.2.1
  have hla := k_lane (g := g) hl
  have rel : ∀ x y, w_R4 n W H z (q_up (s_had (q_up g 8 8 x)) 70 33 y) := fun x y => h.town ((((w_fo_rfl g).up (by omega)).trans ⟨fun a ha => s_had_o (by omega), ⟨by rw [s_had_o (by decide)], by rw [s_had_o (by decide)], by rw [s_had_o (by decide)]⟩, fun j _ => by rw [s_had_o (by decide)], fun j _ => by rw [s_had_o (by decide)]⟩).up (by omega)) (h.2.1.same (fun a h1 h2 => by rw [q_up_ne (by omega), s_had_o (by omega), q_up_ne (by omega)]) (by rw [q_up_ne (by decide), s_had_o (by decide), q_up_ne (by decide)]))
  rcases h.2.2.2.2.2 0 (by omega) with ⟨a1, a2⟩ | ⟨l, v, a1, a2, a3, a4, a5, a6, a7⟩
  · have hn1 : d_isNothing0 g = 1 := by
      unfold d_isNothing0
      rw [show g 62 1 = _ from a2, if_pos rfl]
    have hf : d_faultAs0 (Int32.ofNat l0) g = 0 := by
      unfold d_faultAs0
      rw [hn1, if_neg (by decide)]
    by_cases hm1 : 1 ≤ m
    · have hp : ¬ d_fop0 (f + ((2 : Int32) * (0 : Int32))) g = 0 := by
        have e1 : ∀ y, d_faultAt0 y g = 1 := fun y => by
          unfold d_faultAt0
          rw [hn1, if_neg (by decide)]
        unfold d_fop0
        rw [e1, e1, if_neg (show ¬ (1 : Int32) = 0 by decide)]
        decide
      obtain ⟨x, q2⟩ := rr_zN0 (f := f) (q_up g 8 8 (d_fop0 (f + ((2 : Int32) * (0 : Int32))) g)) u hl hm hm1 a1
      exact ⟨_, _, _, _, _, cr_zC0 g u hm hla hm1 hf hp, q2, n, W, H, z, rel _ _⟩
    · have e : m = 0 := by omega
      subst e
      obtain ⟨x, q2⟩ := rr_z00 (f := f) (q_up g 8 8 (d_faultAs0 (Int32.ofNat l0) g)) u hl
      exact ⟨_, _, _, _, _, cr_zB0 g u hla hf, q2, n, W, H, z, rel _ _⟩
  · have hn1 : d_isNothing0 g = 0 := by
      unfold d_isNothing0
      rw [show g 62 1 = Int32.ofNat v from a5, if_neg (k_nm1 (by omega))]
    have hno : ¬ g 84 0 = i_none := by rw [a3]; exact k_nne (by omega)
    by_cases hll : l = l0
    · subst hll
      have hf : d_faultAs0 (Int32.ofNat l) g = 0 := by
        unfold d_faultAs0
        rw [hn1, if_pos rfl, if_pos a4]
      by_cases hm1 : 1 ≤ m
      · by_cases hI : 0 ≤ f.toInt ∧ f.toInt + 1 < (v : Int)
        · obtain ⟨j0, hj0, rfl⟩ : v_one v f := ⟨f.toInt.toNat, by omega, q_of hI.1⟩
          rw [q_nat (by omega)] at hI
          have hrow : ∀ j, j < 40 → g 63 j = g 86 (0 + j) := fun j hj => a7 j hj
          have htl : ∀ j, j + 1 < v → n_tl n (g 63) j = n_tl n (fun j => g 86 (0 + j)) j := fun j hj => n_tl_cg (hrow j (by omega)) (hrow (j + 1) (by omega))
          have hrd : f_rd (n_tl n (g 63)) v j0 m 0 = f_rd (n_tl n (fun j => g 86 (0 + j))) v j0 m 0 := f_rd_cg htl m 0
          obtain ⟨_, q1, hq⟩ := cr_ok0 (la := Int32.ofNat l) (j0 := j0) u hn2 (by omega) a2 a5 (by omega) hm hla hf
          rcases hq with ⟨w, fd, hw, rfl⟩ | ⟨w, hw, rfl⟩
          · have hG := (f_ws_ok (row := (fun j => g 86 (0 + j))) (j0 := j0) h5 w 0 (g 22) (fun q => g 71 (5 + q)) (fun x h1 h2 => ?_) (fun p hp => (h.2.1.2.2.2.2.1 p hp).2.1) h.2.1.2.2.2.2.2.2.2.2.2.1)
            · have hfw : f_ws (g 63) j0 w 0 (g 22) = f_ws (fun j => g 86 (0 + j)) j0 w 0 (g 22) := f_ws_cg w 0 _ (fun x h1 h2 => by
                have y := ((f_rd_le m 0 w true hw).2.2 x h1 (by omega)).2
                exact ⟨hrow _ (by omega), hrow (j0 + 2 * x + 1) (by omega)⟩)
              rw [hfw] at q1
              have hg71 : q_up (s_m22 (f_ws (fun j => g 86 (0 + j)) j0 w 0 (g 22)) g) 8 8 fd 71 = g 71 := rfl
              have hg86 : q_up (s_m22 (f_ws (fun j => g 86 (0 + j)) j0 w 0 (g 22)) g) 8 8 fd 86 = g 86 := rfl
              obtain ⟨_, q2, hr⟩ := rr_ok0 (g := q_up (s_m22 (f_ws (fun j => g 86 (0 + j)) j0 w 0 (g 22)) g) 8 8 fd) u hn hW hH h5 h25 a2 a6 hno a3 (show j0 < 40 by omega) hm hl h.2.1.2.2.2.2.2.2.2.2.2.1
              rw [hg71, hg86] at hr
              rcases hr with ⟨w', rs, hw', rfl⟩ | ⟨w', hw', rfl⟩
              · have ew : w' = w := by
                  have y := hrd.symm.trans hw
                  rw [hw'] at y
                  exact congrArg Prod.fst y
                subst ew
                have kr := k_rd (g := g) (F := f_ws (fun j => g 86 (0 + j)) j0 w' 0 (g 22)) (G := f_ws (fun j => g 86 (0 + j)) j0 w' 0 (fun q => g 71 (5 + q))) (fd := fd) (rs := rs)
                refine ⟨_, _, _, _, _, q1, q2, n, W, H, z, h.town ⟨fun a ha => ?_, ⟨?_, ?_, ?_⟩, fun j hj => ?_, fun j hj => ?_⟩ (w_TT.of (h.2.1.moods hG.1 hG.2) ?_ ?_ ?_ ?_ ?_ ?_ ?_ ?_ ?_)⟩
                · exact kr.1 a (by omega) (by omega) (by omega) (by omega) (by omega)
                · exact kr.2.2.2.1
                · rw [kr.1 9 (by decide) (by decide) (by decide) (by decide) (by decide)]
                · rw [kr.1 11 (by decide) (by decide) (by decide) (by decide) (by decide)]
                · exact kr.2.2.2.2 j (by omega)
                · rw [kr.2.2.1]
                  exact if_neg (by omega)
                · exact kr.1 20 (by decide) (by decide) (by decide) (by decide) (by decide)
                · exact kr.1 21 (by decide) (by decide) (by decide) (by decide) (by decide)
                · exact kr.2.1
                · exact kr.1 23 (by decide) (by decide) (by decide) (by decide) (by decide)
                · exact kr.1 24 (by decide) (by decide) (by decide) (by decide) (by decide)
                · exact kr.1 25 (by decide) (by decide) (by decide) (by decide) (by decide)
                · exact kr.1 26 (by decide) (by decide) (by decide) (by decide) (by decide)
                · exact kr.1 27 (by decide) (by decide) (by decide) (by decide) (by decide)
                · exact kr.2.2.1
              · exact absurd (hw'.symm.trans (hrd.symm.trans hw)) (fun y => by cases y)
            · rw [← htl _ (by have y := ((f_rd_le m 0 w true hw).2.2 x h1 (by omega)).2; omega)]
              exact ((f_rd_le m 0 w true hw).2.2 x h1 (by omega)).1
          · obtain ⟨_, q2, hr⟩ := rr_ok0 (g := g) u hn hW hH h5 h25 a2 a6 hno a3 (show j0 < 40 by omega) hm hl h.2.1.2.2.2.2.2.2.2.2.2.1
            rcases hr with ⟨w', rs, hw', rfl⟩ | ⟨w', hw', rfl⟩
            · exact absurd (hw'.symm.trans (hrd.symm.trans hw)) (fun y => by cases y)
            · have ew : w' = w := by
                have y := hrd.symm.trans hw
                rw [hw'] at y
                exact congrArg Prod.fst y
              subst ew
              exact ⟨_, _, _, _, _, q1, q2, n, W, H, z, h.town ⟨fun a ha => s_had_o (by omega), ⟨by rw [s_had_o (by decide)], by rw [s_had_o (by decide)], by rw [s_had_o (by decide)]⟩, fun j _ => by rw [s_had_o (by decide)], fun j _ => by rw [s_had_o (by decide)]⟩ (h.2.1.same (fun a h1 h2 => s_had_o (by omega)) (s_had_o (by decide)))⟩
        · have hp : ¬ d_fop0 (f + ((2 : Int32) * (0 : Int32))) g = 0 := by
            rw [k_f0]
            exact k_fop0 hn1 a5 a2 hI
          obtain ⟨x, q2⟩ := rr_zI0 (f := f) (q_up g 8 8 (d_fop0 (f + ((2 : Int32) * (0 : Int32))) g)) u hl hm hm1 hno a3 a2 a6 hI
          exact ⟨_, _, _, _, _, cr_zC0 g u hm hla hm1 hf hp, q2, n, W, H, z, rel _ _⟩
      · have e : m = 0 := by omega
        subst e
        obtain ⟨x, q2⟩ := rr_z00 (f := f) (q_up g 8 8 (d_faultAs0 (Int32.ofNat l) g)) u hl
        exact ⟨_, _, _, _, _, cr_zB0 g u hla hf, q2, n, W, H, z, rel _ _⟩
    · have hnl : ¬ Int32.ofNat l = Int32.ofNat l0 := fun y => hll ((q_eq (by omega) (by omega)).mp y)
      have hf : ¬ d_faultAs0 (Int32.ofNat l0) g = 0 := by
        unfold d_faultAs0
        rw [hn1, if_pos rfl, if_neg (fun y => hnl (a4.symm.trans y))]
        decide
      by_cases hm1 : 1 ≤ m
      · obtain ⟨x, q2⟩ := rr_zL0 (f := f) (q_up g 8 8 (d_faultAs0 (Int32.ofNat l0) g)) u hl hm hm1 hno (fun y => hnl (a3.symm.trans y))
        exact ⟨_, _, _, _, _, cr_zA0 g u hm hla hf, q2, n, W, H, z, rel _ _⟩
      · have e : m = 0 := by omega
        subst e
        obtain ⟨x, q2⟩ := rr_z00 (f := f) (q_up g 8 8 (d_faultAs0 (Int32.ofNat l0) g)) u hl
        exact ⟨_, _, _, _, _, cr_zA0 g u hm hla hf, q2, n, W, H, z, rel _ _⟩
theorem pr_sheet1 (x y : Int32) (g : qM) (u : qW) (h : w_R g) (hb : v_rg 0 2 x ∧ y ≤ (40 : Int32)) : w_2 130 219 [.int (1 : Int32), .int x, .int y] g u := by
  obtain ⟨n, W, H, z, h⟩ := h
  obtain ⟨⟨l, l0, l2, rfl⟩, hy⟩ := hb
  have q1 := b_sheet1 (Int32.ofNat l) y g u
  unfold d_sheet1 at q1
  rw [k_lane l2, if_neg (by decide), if_pos hy] at q1
  by_cases h0 : 0 ≤ y
  · rw [if_pos h0] at q1
    have hy2 := Int32.le_iff_toInt_le.mp hy
    have h02 := Int32.le_iff_toInt_le.mp h0
    obtain ⟨v, v0, v1, rfl⟩ : v_rg 0 40 y := v_nat h02 hy2
    have q2 := rg_sheet1 (s_row_ 65 (fun _ => (0 : Int32)) 40 (q_up (q_up g 64 2 (Int32.ofNat l)) 64 1 (Int32.ofNat v))) u l2 v1
    refine ⟨_, _, _, _, _, q1, q2, n, W, H, z, h.shee (k := 1) (by omega) ((((((w_fs_rfl 1 g).up (by omega) (by omega)).up (by omega) (by omega)).row (by omega) rfl).up (by omega) (by omega)).up (by omega) (by omega) |>.zr rfl) (Or.inr ⟨l, v, l2, v1, rfl, rfl, rfl, rfl, fun j hj => ?_⟩)⟩
    have e1 : (s_zr 40 40 (q_up (q_up (s_row_ 65 (fun _ => (0 : Int32)) 40 (q_up (q_up g 64 2 (Int32.ofNat l)) 64 1 (Int32.ofNat v))) 84 1 (Int32.ofNat l)) 85 1 (Int32.ofNat v))) 65 j = 0 := by
      unfold s_zr
      rw [if_neg (by decide), q_up_ne (by decide), q_up_ne (by decide)]
      unfold s_row_
      rw [if_pos rfl, if_pos hj]
    have e2 : (s_zr 40 40 (q_up (q_up (s_row_ 65 (fun _ => (0 : Int32)) 40 (q_up (q_up g 64 2 (Int32.ofNat l)) 64 1 (Int32.ofNat v))) 84 1 (Int32.ofNat l)) 85 1 (Int32.ofNat v))) 86 (40 * 1 + j) = 0 := by
      unfold s_zr
      rw [if_pos rfl, if_pos (by omega)]
    exact e1.trans e2.symm
  · rw [if_neg h0] at q1
    exact w_2n h q1 (rg_sheetn1 g u l2 (Int32.not_le.mp h0))
theorem pr_lay1 (x y : Int32) (g : qM) (u : qW) (h : w_R g) : w_2 134 221 [.int (1 : Int32), .int x, .int y] g u := by
  obtain ⟨n, W, H, z, h⟩ := h
  rcases h.2.2.2.2.2 1 (by omega) with ⟨a1, a2⟩ | ⟨l, v, a1, a2, a3, a4, a5, a6, a7⟩
  · have hf : d_faultAt1 x g = 1 := by
      unfold d_faultAt1 d_isNothing1
      rw [show g 64 1 = _ from a2, if_pos rfl, if_neg (by decide)]
    exact w_2n h (cg_lay1f1 g u hf) (rg_lay1f1 g u a1)
  · have hn : d_isNothing1 g = 0 := by
      unfold d_isNothing1
      rw [show g 64 1 = Int32.ofNat v from a5, if_neg (k_nm1 (by omega))]
    by_cases hb : v_one v x
    · obtain ⟨i, hi, rfl⟩ := hb
      have hf : d_faultAt1 (Int32.ofNat i) g = 0 := by
        unfold d_faultAt1
        rw [hn, if_pos rfl, if_neg (show ¬ Int32.ofNat i < 0 from fun y => absurd ((q_lt (j := 0) (by omega) (by omega)).mp y) (by omega)), if_pos (by rw [show g 64 1 = Int32.ofNat v from a5]; exact (q_lt (by omega) (by omega)).mpr hi)]
      have q1 := cg_lay1 (v := y) g u a2 a5 hi hf
      have q2 := rg_lay1 (v := y) (q_up g 65 i (s_ln (g 64 2) y)) u a2 a1 a6 a3 hi
      rw [show (q_up g 65 i (s_ln (g 64 2) y)) 84 1 = g 64 2 from a3.trans a4.symm] at q2
      refine ⟨_, _, _, _, _, q1, q2, n, W, H, z, h.shee (k := 1) (by omega) (((w_fs_rfl 1 g).up (by omega) (by omega)).up (by omega) (by omega)) (Or.inr ⟨l, v, a1, a2, a3, a4, a5, a6, fun j hj => ?_⟩)⟩
      rw [q_up_ne (by decide), q_up_at, q_up_at, q_up_ne (by decide)]
      by_cases e : j = i
      · rw [if_pos e, if_pos (by omega)]
      · rw [if_neg e, if_neg (by omega)]
        exact a7 j hj
    · have hno : ¬ (0 ≤ x.toInt ∧ x.toInt < (v : Int)) := fun y => hb ⟨x.toInt.toNat, by omega, q_of y.1⟩
      have hf : d_faultAt1 x g = 2 := by
        unfold d_faultAt1
        rw [hn, if_pos rfl]
        by_cases c : x < 0
        · rw [if_pos c]
        · rw [if_neg c, if_neg]
          intro c2
          rw [show g 64 1 = Int32.ofNat v from a5, Int32.lt_iff_toInt_lt, q_nat (by omega)] at c2
          rw [Int32.lt_iff_toInt_lt] at c
          have z0 : (0 : Int32).toInt = 0 := rfl
          exact hno ⟨by omega, c2⟩
      have hin : s_in (Int32.toInt64 x) (0 : Int64) (Int32.toInt64 ((g 85 1) - (1 : Int32))) = 0 := by
        refine Classical.byContradiction (fun c => hno ?_)
        rw [s_in_i, show (0 : Int64).toInt = 0 from rfl, Int32.toInt_toInt64, a6, s_sub (by rw [q_nat (by omega), show (1 : Int32).toInt = 1 from rfl]; omega) (by rw [q_nat (by omega), show (1 : Int32).toInt = 1 from rfl]; omega), q_nat (by omega), show (1 : Int32).toInt = 1 from rfl] at c
        omega
      exact w_2n h (cg_lay1f2 g u hf) (rg_lay1f2 g u (by rw [a3]; exact k_nne (by omega)) hin)
theorem k_fop1 {g : qM} {v : Nat} {f : Int32} (hn : d_isNothing1 g = 0) (hs : g 64 1 = Int32.ofNat v) (hv : v ≤ 40) (hI : ¬ (0 ≤ f.toInt ∧ f.toInt + 1 < (v : Int))) : ¬ d_fop1 f g = 0 := by
  unfold d_fop1 d_faultAt1
  rw [hn, if_pos rfl, if_pos rfl, hs]
  have z0 : (0 : Int32).toInt = 0 := rfl
  have z1 : (1 : Int32).toInt = 1 := rfl
  by_cases c : f < 0
  · rw [if_pos c, if_neg (by decide)]
    decide
  · rw [if_neg c]
    rw [Int32.lt_iff_toInt_lt] at c
    by_cases c2 : f < Int32.ofNat v
    · rw [if_pos c2, if_pos rfl]
      rw [Int32.lt_iff_toInt_lt, q_nat (by omega)] at c2
      have e : (f + 1).toInt = f.toInt + 1 := by rw [s_add (by omega) (by omega), z1]
      rw [if_neg (show ¬ f + 1 < 0 from fun y => by rw [Int32.lt_iff_toInt_lt, e] at y; omega), if_neg (show ¬ f + 1 < Int32.ofNat v from fun y => by rw [Int32.lt_iff_toInt_lt, e, q_nat (by omega)] at y; omega)]
      decide
    · rw [if_neg c2, if_neg (by decide)]
      decide
theorem pr_read1 (f : Int32) (l0 m : Nat) (g : qM) (u : qW) (h : w_R g) (hl : l0 ≤ 2) (hm : m ≤ 20) : w_2 138 222 [.int (1 : Int32), .int (Int32.ofNat l0), .int f, .int (Int32.ofNat m)] g u := by
  obtain ⟨n, W, H, z, h⟩ := h
  have h5 := h.n5
  have h25 := h.wh
  have ok := h.ok
  have cs := h.cs
  have hgo := h.hgo
  obtain ⟨hn, hW, hH⟩ := h.1
  have hn2 : g 20 3 = Int32.ofNat n := h.2.1.1.2.2.2.1
  have hW2 : g 20 0 = Int32.ofNat W := h.2.1.1.1
  have hH2 : g 20 1 = Int32.ofNat H := h.2.1.1.2.1
  have hla := k_lane (g := g) hl
  have rel : ∀ x y, w_R4 n W H z (q_up (s_had (q_up g 8 8 x)) 70 33 y) := fun x y => h.town ((((w_fo_rfl g).up (by omega)).trans ⟨fun a ha => s_had_o (by omega), ⟨by rw [s_had_o (by decide)], by rw [s_had_o (by decide)], by rw [s_had_o (by decide)]⟩, fun j _ => by rw [s_had_o (by decide)], fun j _ => by rw [s_had_o (by decide)]⟩).up (by omega)) (h.2.1.same (fun a h1 h2 => by rw [q_up_ne (by omega), s_had_o (by omega), q_up_ne (by omega)]) (by rw [q_up_ne (by decide), s_had_o (by decide), q_up_ne (by decide)]))
  rcases h.2.2.2.2.2 1 (by omega) with ⟨a1, a2⟩ | ⟨l, v, a1, a2, a3, a4, a5, a6, a7⟩
  · have hn1 : d_isNothing1 g = 1 := by
      unfold d_isNothing1
      rw [show g 64 1 = _ from a2, if_pos rfl]
    have hf : d_faultAs1 (Int32.ofNat l0) g = 0 := by
      unfold d_faultAs1
      rw [hn1, if_neg (by decide)]
    by_cases hm1 : 1 ≤ m
    · have hp : ¬ d_fop1 (f + ((2 : Int32) * (0 : Int32))) g = 0 := by
        have e1 : ∀ y, d_faultAt1 y g = 1 := fun y => by
          unfold d_faultAt1
          rw [hn1, if_neg (by decide)]
        unfold d_fop1
        rw [e1, e1, if_neg (show ¬ (1 : Int32) = 0 by decide)]
        decide
      obtain ⟨x, q2⟩ := rr_zN1 (f := f) (q_up g 8 8 (d_fop1 (f + ((2 : Int32) * (0 : Int32))) g)) u hl hm hm1 a1
      exact ⟨_, _, _, _, _, cr_zC1 g u hm hla hm1 hf hp, q2, n, W, H, z, rel _ _⟩
    · have e : m = 0 := by omega
      subst e
      obtain ⟨x, q2⟩ := rr_z01 (f := f) (q_up g 8 8 (d_faultAs1 (Int32.ofNat l0) g)) u hl
      exact ⟨_, _, _, _, _, cr_zB1 g u hla hf, q2, n, W, H, z, rel _ _⟩
  · have hn1 : d_isNothing1 g = 0 := by
      unfold d_isNothing1
      rw [show g 64 1 = Int32.ofNat v from a5, if_neg (k_nm1 (by omega))]
    have hno : ¬ g 84 1 = i_none := by rw [a3]; exact k_nne (by omega)
    by_cases hll : l = l0
    · subst hll
      have hf : d_faultAs1 (Int32.ofNat l) g = 0 := by
        unfold d_faultAs1
        rw [hn1, if_pos rfl, if_pos a4]
      by_cases hm1 : 1 ≤ m
      · by_cases hI : 0 ≤ f.toInt ∧ f.toInt + 1 < (v : Int)
        · obtain ⟨j0, hj0, rfl⟩ : v_one v f := ⟨f.toInt.toNat, by omega, q_of hI.1⟩
          rw [q_nat (by omega)] at hI
          have hrow : ∀ j, j < 40 → g 65 j = g 86 (40 + j) := fun j hj => a7 j hj
          have htl : ∀ j, j + 1 < v → n_tl n (g 65) j = n_tl n (fun j => g 86 (40 + j)) j := fun j hj => n_tl_cg (hrow j (by omega)) (hrow (j + 1) (by omega))
          have hrd : f_rd (n_tl n (g 65)) v j0 m 0 = f_rd (n_tl n (fun j => g 86 (40 + j))) v j0 m 0 := f_rd_cg htl m 0
          obtain ⟨_, q1, hq⟩ := cr_ok1 (la := Int32.ofNat l) (j0 := j0) u hn2 (by omega) a2 a5 (by omega) hm hla hf
          rcases hq with ⟨w, fd, hw, rfl⟩ | ⟨w, hw, rfl⟩
          · have hG := (f_ws_ok (row := (fun j => g 86 (40 + j))) (j0 := j0) h5 w 0 (g 22) (fun q => g 71 (5 + q)) (fun x h1 h2 => ?_) (fun p hp => (h.2.1.2.2.2.2.1 p hp).2.1) h.2.1.2.2.2.2.2.2.2.2.2.1)
            · have hfw : f_ws (g 65) j0 w 0 (g 22) = f_ws (fun j => g 86 (40 + j)) j0 w 0 (g 22) := f_ws_cg w 0 _ (fun x h1 h2 => by
                have y := ((f_rd_le m 0 w true hw).2.2 x h1 (by omega)).2
                exact ⟨hrow _ (by omega), hrow (j0 + 2 * x + 1) (by omega)⟩)
              rw [hfw] at q1
              have hg71 : q_up (s_m22 (f_ws (fun j => g 86 (40 + j)) j0 w 0 (g 22)) g) 8 8 fd 71 = g 71 := rfl
              have hg86 : q_up (s_m22 (f_ws (fun j => g 86 (40 + j)) j0 w 0 (g 22)) g) 8 8 fd 86 = g 86 := rfl
              obtain ⟨_, q2, hr⟩ := rr_ok1 (g := q_up (s_m22 (f_ws (fun j => g 86 (40 + j)) j0 w 0 (g 22)) g) 8 8 fd) u hn hW hH h5 h25 a2 a6 hno a3 (show j0 < 40 by omega) hm hl h.2.1.2.2.2.2.2.2.2.2.2.1
              rw [hg71, hg86] at hr
              rcases hr with ⟨w', rs, hw', rfl⟩ | ⟨w', hw', rfl⟩
              · have ew : w' = w := by
                  have y := hrd.symm.trans hw
                  rw [hw'] at y
                  exact congrArg Prod.fst y
                subst ew
                have kr := k_rd (g := g) (F := f_ws (fun j => g 86 (40 + j)) j0 w' 0 (g 22)) (G := f_ws (fun j => g 86 (40 + j)) j0 w' 0 (fun q => g 71 (5 + q))) (fd := fd) (rs := rs)
                refine ⟨_, _, _, _, _, q1, q2, n, W, H, z, h.town ⟨fun a ha => ?_, ⟨?_, ?_, ?_⟩, fun j hj => ?_, fun j hj => ?_⟩ (w_TT.of (h.2.1.moods hG.1 hG.2) ?_ ?_ ?_ ?_ ?_ ?_ ?_ ?_ ?_)⟩
                · exact kr.1 a (by omega) (by omega) (by omega) (by omega) (by omega)
                · exact kr.2.2.2.1
                · rw [kr.1 9 (by decide) (by decide) (by decide) (by decide) (by decide)]
                · rw [kr.1 11 (by decide) (by decide) (by decide) (by decide) (by decide)]
                · exact kr.2.2.2.2 j (by omega)
                · rw [kr.2.2.1]
                  exact if_neg (by omega)
                · exact kr.1 20 (by decide) (by decide) (by decide) (by decide) (by decide)
                · exact kr.1 21 (by decide) (by decide) (by decide) (by decide) (by decide)
                · exact kr.2.1
                · exact kr.1 23 (by decide) (by decide) (by decide) (by decide) (by decide)
                · exact kr.1 24 (by decide) (by decide) (by decide) (by decide) (by decide)
                · exact kr.1 25 (by decide) (by decide) (by decide) (by decide) (by decide)
                · exact kr.1 26 (by decide) (by decide) (by decide) (by decide) (by decide)
                · exact kr.1 27 (by decide) (by decide) (by decide) (by decide) (by decide)
                · exact kr.2.2.1
              · exact absurd (hw'.symm.trans (hrd.symm.trans hw)) (fun y => by cases y)
            · rw [← htl _ (by have y := ((f_rd_le m 0 w true hw).2.2 x h1 (by omega)).2; omega)]
              exact ((f_rd_le m 0 w true hw).2.2 x h1 (by omega)).1
          · obtain ⟨_, q2, hr⟩ := rr_ok1 (g := g) u hn hW hH h5 h25 a2 a6 hno a3 (show j0 < 40 by omega) hm hl h.2.1.2.2.2.2.2.2.2.2.2.1
            rcases hr with ⟨w', rs, hw', rfl⟩ | ⟨w', hw', rfl⟩
            · exact absurd (hw'.symm.trans (hrd.symm.trans hw)) (fun y => by cases y)
            · have ew : w' = w := by
                have y := hrd.symm.trans hw
                rw [hw'] at y
                exact congrArg Prod.fst y
              subst ew
              exact ⟨_, _, _, _, _, q1, q2, n, W, H, z, h.town ⟨fun a ha => s_had_o (by omega), ⟨by rw [s_had_o (by decide)], by rw [s_had_o (by decide)], by rw [s_had_o (by decide)]⟩, fun j _ => by rw [s_had_o (by decide)], fun j _ => by rw [s_had_o (by decide)]⟩ (h.2.1.same (fun a h1 h2 => s_had_o (by omega)) (s_had_o (by decide)))⟩
        · have hp : ¬ d_fop1 (f + ((2 : Int32) * (0 : Int32))) g = 0 := by
            rw [k_f0]
            exact k_fop1 hn1 a5 a2 hI
          obtain ⟨x, q2⟩ := rr_zI1 (f := f) (q_up g 8 8 (d_fop1 (f + ((2 : Int32) * (0 : Int32))) g)) u hl hm hm1 hno a3 a2 a6 hI
          exact ⟨_, _, _, _, _, cr_zC1 g u hm hla hm1 hf hp, q2, n, W, H, z, rel _ _⟩
      · have e : m = 0 := by omega
        subst e
        obtain ⟨x, q2⟩ := rr_z01 (f := f) (q_up g 8 8 (d_faultAs1 (Int32.ofNat l) g)) u hl
        exact ⟨_, _, _, _, _, cr_zB1 g u hla hf, q2, n, W, H, z, rel _ _⟩
    · have hnl : ¬ Int32.ofNat l = Int32.ofNat l0 := fun y => hll ((q_eq (by omega) (by omega)).mp y)
      have hf : ¬ d_faultAs1 (Int32.ofNat l0) g = 0 := by
        unfold d_faultAs1
        rw [hn1, if_pos rfl, if_neg (fun y => hnl (a4.symm.trans y))]
        decide
      by_cases hm1 : 1 ≤ m
      · obtain ⟨x, q2⟩ := rr_zL1 (f := f) (q_up g 8 8 (d_faultAs1 (Int32.ofNat l0) g)) u hl hm hm1 hno (fun y => hnl (a3.symm.trans y))
        exact ⟨_, _, _, _, _, cr_zA1 g u hm hla hf, q2, n, W, H, z, rel _ _⟩
      · have e : m = 0 := by omega
        subst e
        obtain ⟨x, q2⟩ := rr_z01 (f := f) (q_up g 8 8 (d_faultAs1 (Int32.ofNat l0) g)) u hl
        exact ⟨_, _, _, _, _, cr_zA1 g u hm hla hf, q2, n, W, H, z, rel _ _⟩
theorem pr_sheet2 (x y : Int32) (g : qM) (u : qW) (h : w_R g) (hb : v_rg 0 2 x ∧ y ≤ (40 : Int32)) : w_2 130 219 [.int (2 : Int32), .int x, .int y] g u := by
  obtain ⟨n, W, H, z, h⟩ := h
  obtain ⟨⟨l, l0, l2, rfl⟩, hy⟩ := hb
  have q1 := b_sheet2 (Int32.ofNat l) y g u
  unfold d_sheet2 at q1
  rw [k_lane l2, if_neg (by decide), if_pos hy] at q1
  by_cases h0 : 0 ≤ y
  · rw [if_pos h0] at q1
    have hy2 := Int32.le_iff_toInt_le.mp hy
    have h02 := Int32.le_iff_toInt_le.mp h0
    obtain ⟨v, v0, v1, rfl⟩ : v_rg 0 40 y := v_nat h02 hy2
    have q2 := rg_sheet2 (s_row_ 67 (fun _ => (0 : Int32)) 40 (q_up (q_up g 66 2 (Int32.ofNat l)) 66 1 (Int32.ofNat v))) u l2 v1
    refine ⟨_, _, _, _, _, q1, q2, n, W, H, z, h.shee (k := 2) (by omega) ((((((w_fs_rfl 2 g).up (by omega) (by omega)).up (by omega) (by omega)).row (by omega) rfl).up (by omega) (by omega)).up (by omega) (by omega) |>.zr rfl) (Or.inr ⟨l, v, l2, v1, rfl, rfl, rfl, rfl, fun j hj => ?_⟩)⟩
    have e1 : (s_zr 80 40 (q_up (q_up (s_row_ 67 (fun _ => (0 : Int32)) 40 (q_up (q_up g 66 2 (Int32.ofNat l)) 66 1 (Int32.ofNat v))) 84 2 (Int32.ofNat l)) 85 2 (Int32.ofNat v))) 67 j = 0 := by
      unfold s_zr
      rw [if_neg (by decide), q_up_ne (by decide), q_up_ne (by decide)]
      unfold s_row_
      rw [if_pos rfl, if_pos hj]
    have e2 : (s_zr 80 40 (q_up (q_up (s_row_ 67 (fun _ => (0 : Int32)) 40 (q_up (q_up g 66 2 (Int32.ofNat l)) 66 1 (Int32.ofNat v))) 84 2 (Int32.ofNat l)) 85 2 (Int32.ofNat v))) 86 (40 * 2 + j) = 0 := by
      unfold s_zr
      rw [if_pos rfl, if_pos (by omega)]
    exact e1.trans e2.symm
  · rw [if_neg h0] at q1
    exact w_2n h q1 (rg_sheetn2 g u l2 (Int32.not_le.mp h0))
theorem pr_lay2 (x y : Int32) (g : qM) (u : qW) (h : w_R g) : w_2 134 221 [.int (2 : Int32), .int x, .int y] g u := by
  obtain ⟨n, W, H, z, h⟩ := h
  rcases h.2.2.2.2.2 2 (by omega) with ⟨a1, a2⟩ | ⟨l, v, a1, a2, a3, a4, a5, a6, a7⟩
  · have hf : d_faultAt2 x g = 1 := by
      unfold d_faultAt2 d_isNothing2
      rw [show g 66 1 = _ from a2, if_pos rfl, if_neg (by decide)]
    exact w_2n h (cg_lay2f1 g u hf) (rg_lay2f1 g u a1)
  · have hn : d_isNothing2 g = 0 := by
      unfold d_isNothing2
      rw [show g 66 1 = Int32.ofNat v from a5, if_neg (k_nm1 (by omega))]
    by_cases hb : v_one v x
    · obtain ⟨i, hi, rfl⟩ := hb
      have hf : d_faultAt2 (Int32.ofNat i) g = 0 := by
        unfold d_faultAt2
        rw [hn, if_pos rfl, if_neg (show ¬ Int32.ofNat i < 0 from fun y => absurd ((q_lt (j := 0) (by omega) (by omega)).mp y) (by omega)), if_pos (by rw [show g 66 1 = Int32.ofNat v from a5]; exact (q_lt (by omega) (by omega)).mpr hi)]
      have q1 := cg_lay2 (v := y) g u a2 a5 hi hf
      have q2 := rg_lay2 (v := y) (q_up g 67 i (s_ln (g 66 2) y)) u a2 a1 a6 a3 hi
      rw [show (q_up g 67 i (s_ln (g 66 2) y)) 84 2 = g 66 2 from a3.trans a4.symm] at q2
      refine ⟨_, _, _, _, _, q1, q2, n, W, H, z, h.shee (k := 2) (by omega) (((w_fs_rfl 2 g).up (by omega) (by omega)).up (by omega) (by omega)) (Or.inr ⟨l, v, a1, a2, a3, a4, a5, a6, fun j hj => ?_⟩)⟩
      rw [q_up_ne (by decide), q_up_at, q_up_at, q_up_ne (by decide)]
      by_cases e : j = i
      · rw [if_pos e, if_pos (by omega)]
      · rw [if_neg e, if_neg (by omega)]
        exact a7 j hj
    · have hno : ¬ (0 ≤ x.toInt ∧ x.toInt < (v : Int)) := fun y => hb ⟨x.toInt.toNat, by omega, q_of y.1⟩
      have hf : d_faultAt2 x g = 2 := by
        unfold d_faultAt2
        rw [hn, if_pos rfl]
        by_cases c : x < 0
        · rw [if_pos c]
        · rw [if_neg c, if_neg]
          intro c2
          rw [show g 66 1 = Int32.ofNat v from a5, Int32.lt_iff_toInt_lt, q_nat (by omega)] at c2
          rw [Int32.lt_iff_toInt_lt] at c
          have z0 : (0 : Int32).toInt = 0 := rfl
          exact hno ⟨by omega, c2⟩
      have hin : s_in (Int32.toInt64 x) (0 : Int64) (Int32.toInt64 ((g 85 2) - (1 : Int32))) = 0 := by
        refine Classical.byContradiction (fun c => hno ?_)
        rw [s_in_i, show (0 : Int64).toInt = 0 from rfl, Int32.toInt_toInt64, a6, s_sub (by rw [q_nat (by omega), show (1 : Int32).toInt = 1 from rfl]; omega) (by rw [q_nat (by omega), show (1 : Int32).toInt = 1 from rfl]; omega), q_nat (by omega), show (1 : Int32).toInt = 1 from rfl] at c
        omega
      exact w_2n h (cg_lay2f2 g u hf) (rg_lay2f2 g u (by rw [a3]; exact k_nne (by omega)) hin)
theorem k_fop2 {g : qM} {v : Nat} {f : Int32} (hn : d_isNothing2 g = 0) (hs : g 66 1 = Int32.ofNat v) (hv : v ≤ 40) (hI : ¬ (0 ≤ f.toInt ∧ f.toInt + 1 < (v : Int))) : ¬ d_fop2 f g = 0 := by
  unfold d_fop2 d_faultAt2
  rw [hn, if_pos rfl, if_pos rfl, hs]
  have z0 : (0 : Int32).toInt = 0 := rfl
  have z1 : (1 : Int32).toInt = 1 := rfl
  by_cases c : f < 0
  · rw [if_pos c, if_neg (by decide)]
    decide
  · rw [if_neg c]
    rw [Int32.lt_iff_toInt_lt] at c
    by_cases c2 : f < Int32.ofNat v
    · rw [if_pos c2, if_pos rfl]
      rw [Int32.lt_iff_toInt_lt, q_nat (by omega)] at c2
      have e : (f + 1).toInt = f.toInt + 1 := by rw [s_add (by omega) (by omega), z1]
      rw [if_neg (show ¬ f + 1 < 0 from fun y => by rw [Int32.lt_iff_toInt_lt, e] at y; omega), if_neg (show ¬ f + 1 < Int32.ofNat v from fun y => by rw [Int32.lt_iff_toInt_lt, e, q_nat (by omega)] at y; omega)]
      decide
    · rw [if_neg c2, if_neg (by decide)]
      decide
theorem pr_read2 (f : Int32) (l0 m : Nat) (g : qM) (u : qW) (h : w_R g) (hl : l0 ≤ 2) (hm : m ≤ 20) : w_2 138 222 [.int (2 : Int32), .int (Int32.ofNat l0), .int f, .int (Int32.ofNat m)] g u := by
  obtain ⟨n, W, H, z, h⟩ := h
  have h5 := h.n5
  have h25 := h.wh
  have ok := h.ok
  have cs := h.cs
  have hgo := h.hgo
  obtain ⟨hn, hW, hH⟩ := h.1
  have hn2 : g 20 3 = Int32.ofNat n := h.2.1.1.2.2.2.1
  have hW2 : g 20 0 = Int32.ofNat W := h.2.1.1.1
  have hH2 : g 20 1 = Int32.ofNat H := h.2.1.1.2.1
  have hla := k_lane (g := g) hl
  have rel : ∀ x y, w_R4 n W H z (q_up (s_had (q_up g 8 8 x)) 70 33 y) := fun x y => h.town ((((w_fo_rfl g).up (by omega)).trans ⟨fun a ha => s_had_o (by omega), ⟨by rw [s_had_o (by decide)], by rw [s_had_o (by decide)], by rw [s_had_o (by decide)]⟩, fun j _ => by rw [s_had_o (by decide)], fun j _ => by rw [s_had_o (by decide)]⟩).up (by omega)) (h.2.1.same (fun a h1 h2 => by rw [q_up_ne (by omega), s_had_o (by omega), q_up_ne (by omega)]) (by rw [q_up_ne (by decide), s_had_o (by decide), q_up_ne (by decide)]))
  rcases h.2.2.2.2.2 2 (by omega) with ⟨a1, a2⟩ | ⟨l, v, a1, a2, a3, a4, a5, a6, a7⟩
  · have hn1 : d_isNothing2 g = 1 := by
      unfold d_isNothing2
      rw [show g 66 1 = _ from a2, if_pos rfl]
    have hf : d_faultAs2 (Int32.ofNat l0) g = 0 := by
      unfold d_faultAs2
      rw [hn1, if_neg (by decide)]
    by_cases hm1 : 1 ≤ m
    · have hp : ¬ d_fop2 (f + ((2 : Int32) * (0 : Int32))) g = 0 := by
        have e1 : ∀ y, d_faultAt2 y g = 1 := fun y => by
          unfold d_faultAt2
          rw [hn1, if_neg (by decide)]
        unfold d_fop2
        rw [e1, e1, if_neg (show ¬ (1 : Int32) = 0 by decide)]
        decide
      obtain ⟨x, q2⟩ := rr_zN2 (f := f) (q_up g 8 8 (d_fop2 (f + ((2 : Int32) * (0 : Int32))) g)) u hl hm hm1 a1
      exact ⟨_, _, _, _, _, cr_zC2 g u hm hla hm1 hf hp, q2, n, W, H, z, rel _ _⟩
    · have e : m = 0 := by omega
      subst e
      obtain ⟨x, q2⟩ := rr_z02 (f := f) (q_up g 8 8 (d_faultAs2 (Int32.ofNat l0) g)) u hl
      exact ⟨_, _, _, _, _, cr_zB2 g u hla hf, q2, n, W, H, z, rel _ _⟩
  · have hn1 : d_isNothing2 g = 0 := by
      unfold d_isNothing2
      rw [show g 66 1 = Int32.ofNat v from a5, if_neg (k_nm1 (by omega))]
    have hno : ¬ g 84 2 = i_none := by rw [a3]; exact k_nne (by omega)
    by_cases hll : l = l0
    · subst hll
      have hf : d_faultAs2 (Int32.ofNat l) g = 0 := by
        unfold d_faultAs2
        rw [hn1, if_pos rfl, if_pos a4]
      by_cases hm1 : 1 ≤ m
      · by_cases hI : 0 ≤ f.toInt ∧ f.toInt + 1 < (v : Int)
        · obtain ⟨j0, hj0, rfl⟩ : v_one v f := ⟨f.toInt.toNat, by omega, q_of hI.1⟩
          rw [q_nat (by omega)] at hI
          have hrow : ∀ j, j < 40 → g 67 j = g 86 (80 + j) := fun j hj => a7 j hj
          have htl : ∀ j, j + 1 < v → n_tl n (g 67) j = n_tl n (fun j => g 86 (80 + j)) j := fun j hj => n_tl_cg (hrow j (by omega)) (hrow (j + 1) (by omega))
          have hrd : f_rd (n_tl n (g 67)) v j0 m 0 = f_rd (n_tl n (fun j => g 86 (80 + j))) v j0 m 0 := f_rd_cg htl m 0
          obtain ⟨_, q1, hq⟩ := cr_ok2 (la := Int32.ofNat l) (j0 := j0) u hn2 (by omega) a2 a5 (by omega) hm hla hf
          rcases hq with ⟨w, fd, hw, rfl⟩ | ⟨w, hw, rfl⟩
          · have hG := (f_ws_ok (row := (fun j => g 86 (80 + j))) (j0 := j0) h5 w 0 (g 22) (fun q => g 71 (5 + q)) (fun x h1 h2 => ?_) (fun p hp => (h.2.1.2.2.2.2.1 p hp).2.1) h.2.1.2.2.2.2.2.2.2.2.2.1)
            · have hfw : f_ws (g 67) j0 w 0 (g 22) = f_ws (fun j => g 86 (80 + j)) j0 w 0 (g 22) := f_ws_cg w 0 _ (fun x h1 h2 => by
                have y := ((f_rd_le m 0 w true hw).2.2 x h1 (by omega)).2
                exact ⟨hrow _ (by omega), hrow (j0 + 2 * x + 1) (by omega)⟩)
              rw [hfw] at q1
              have hg71 : q_up (s_m22 (f_ws (fun j => g 86 (80 + j)) j0 w 0 (g 22)) g) 8 8 fd 71 = g 71 := rfl
              have hg86 : q_up (s_m22 (f_ws (fun j => g 86 (80 + j)) j0 w 0 (g 22)) g) 8 8 fd 86 = g 86 := rfl
              obtain ⟨_, q2, hr⟩ := rr_ok2 (g := q_up (s_m22 (f_ws (fun j => g 86 (80 + j)) j0 w 0 (g 22)) g) 8 8 fd) u hn hW hH h5 h25 a2 a6 hno a3 (show j0 < 40 by omega) hm hl h.2.1.2.2.2.2.2.2.2.2.2.1
              rw [hg71, hg86] at hr
              rcases hr with ⟨w', rs, hw', rfl⟩ | ⟨w', hw', rfl⟩
              · have ew : w' = w := by
                  have y := hrd.symm.trans hw
                  rw [hw'] at y
                  exact congrArg Prod.fst y
                subst ew
                have kr := k_rd (g := g) (F := f_ws (fun j => g 86 (80 + j)) j0 w' 0 (g 22)) (G := f_ws (fun j => g 86 (80 + j)) j0 w' 0 (fun q => g 71 (5 + q))) (fd := fd) (rs := rs)
                refine ⟨_, _, _, _, _, q1, q2, n, W, H, z, h.town ⟨fun a ha => ?_, ⟨?_, ?_, ?_⟩, fun j hj => ?_, fun j hj => ?_⟩ (w_TT.of (h.2.1.moods hG.1 hG.2) ?_ ?_ ?_ ?_ ?_ ?_ ?_ ?_ ?_)⟩
                · exact kr.1 a (by omega) (by omega) (by omega) (by omega) (by omega)
                · exact kr.2.2.2.1
                · rw [kr.1 9 (by decide) (by decide) (by decide) (by decide) (by decide)]
                · rw [kr.1 11 (by decide) (by decide) (by decide) (by decide) (by decide)]
                · exact kr.2.2.2.2 j (by omega)
                · rw [kr.2.2.1]
                  exact if_neg (by omega)
                · exact kr.1 20 (by decide) (by decide) (by decide) (by decide) (by decide)
                · exact kr.1 21 (by decide) (by decide) (by decide) (by decide) (by decide)
                · exact kr.2.1
                · exact kr.1 23 (by decide) (by decide) (by decide) (by decide) (by decide)
                · exact kr.1 24 (by decide) (by decide) (by decide) (by decide) (by decide)
                · exact kr.1 25 (by decide) (by decide) (by decide) (by decide) (by decide)
                · exact kr.1 26 (by decide) (by decide) (by decide) (by decide) (by decide)
                · exact kr.1 27 (by decide) (by decide) (by decide) (by decide) (by decide)
                · exact kr.2.2.1
              · exact absurd (hw'.symm.trans (hrd.symm.trans hw)) (fun y => by cases y)
            · rw [← htl _ (by have y := ((f_rd_le m 0 w true hw).2.2 x h1 (by omega)).2; omega)]
              exact ((f_rd_le m 0 w true hw).2.2 x h1 (by omega)).1
          · obtain ⟨_, q2, hr⟩ := rr_ok2 (g := g) u hn hW hH h5 h25 a2 a6 hno a3 (show j0 < 40 by omega) hm hl h.2.1.2.2.2.2.2.2.2.2.2.1
            rcases hr with ⟨w', rs, hw', rfl⟩ | ⟨w', hw', rfl⟩
            · exact absurd (hw'.symm.trans (hrd.symm.trans hw)) (fun y => by cases y)
            · have ew : w' = w := by
                have y := hrd.symm.trans hw
                rw [hw'] at y
                exact congrArg Prod.fst y
              subst ew
              exact ⟨_, _, _, _, _, q1, q2, n, W, H, z, h.town ⟨fun a ha => s_had_o (by omega), ⟨by rw [s_had_o (by decide)], by rw [s_had_o (by decide)], by rw [s_had_o (by decide)]⟩, fun j _ => by rw [s_had_o (by decide)], fun j _ => by rw [s_had_o (by decide)]⟩ (h.2.1.same (fun a h1 h2 => s_had_o (by omega)) (s_had_o (by decide)))⟩
        · have hp : ¬ d_fop2 (f + ((2 : Int32) * (0 : Int32))) g = 0 := by
            rw [k_f0]
            exact k_fop2 hn1 a5 a2 hI
          obtain ⟨x, q2⟩ := rr_zI2 (f := f) (q_up g 8 8 (d_fop2 (f + ((2 : Int32) * (0 : Int32))) g)) u hl hm hm1 hno a3 a2 a6 hI
          exact ⟨_, _, _, _, _, cr_zC2 g u hm hla hm1 hf hp, q2, n, W, H, z, rel _ _⟩
      · have e : m = 0 := by omega
        subst e
        obtain ⟨x, q2⟩ := rr_z02 (f := f) (q_up g 8 8 (d_faultAs2 (Int32.ofNat l) g)) u hl
        exact ⟨_, _, _, _, _, cr_zB2 g u hla hf, q2, n, W, H, z, rel _ _⟩
    · have hnl : ¬ Int32.ofNat l = Int32.ofNat l0 := fun y => hll ((q_eq (by omega) (by omega)).mp y)
      have hf : ¬ d_faultAs2 (Int32.ofNat l0) g = 0 := by
        unfold d_faultAs2
        rw [hn1, if_pos rfl, if_neg (fun y => hnl (a4.symm.trans y))]
        decide
      by_cases hm1 : 1 ≤ m
      · obtain ⟨x, q2⟩ := rr_zL2 (f := f) (q_up g 8 8 (d_faultAs2 (Int32.ofNat l0) g)) u hl hm hm1 hno (fun y => hnl (a3.symm.trans y))
        exact ⟨_, _, _, _, _, cr_zA2 g u hm hla hf, q2, n, W, H, z, rel _ _⟩
      · have e : m = 0 := by omega
        subst e
        obtain ⟨x, q2⟩ := rr_z02 (f := f) (q_up g 8 8 (d_faultAs2 (Int32.ofNat l0) g)) u hl
        exact ⟨_, _, _, _, _, cr_zA2 g u hm hla hf, q2, n, W, H, z, rel _ _⟩
theorem pr_sheet3 (x y : Int32) (g : qM) (u : qW) (h : w_R g) (hb : v_rg 0 2 x ∧ y ≤ (40 : Int32)) : w_2 130 219 [.int (3 : Int32), .int x, .int y] g u := by
  obtain ⟨n, W, H, z, h⟩ := h
  obtain ⟨⟨l, l0, l2, rfl⟩, hy⟩ := hb
  have q1 := b_sheet3 (Int32.ofNat l) y g u
  unfold d_sheet3 at q1
  rw [k_lane l2, if_neg (by decide), if_pos hy] at q1
  by_cases h0 : 0 ≤ y
  · rw [if_pos h0] at q1
    have hy2 := Int32.le_iff_toInt_le.mp hy
    have h02 := Int32.le_iff_toInt_le.mp h0
    obtain ⟨v, v0, v1, rfl⟩ : v_rg 0 40 y := v_nat h02 hy2
    have q2 := rg_sheet3 (s_row_ 69 (fun _ => (0 : Int32)) 40 (q_up (q_up g 68 2 (Int32.ofNat l)) 68 1 (Int32.ofNat v))) u l2 v1
    refine ⟨_, _, _, _, _, q1, q2, n, W, H, z, h.shee (k := 3) (by omega) ((((((w_fs_rfl 3 g).up (by omega) (by omega)).up (by omega) (by omega)).row (by omega) rfl).up (by omega) (by omega)).up (by omega) (by omega) |>.zr rfl) (Or.inr ⟨l, v, l2, v1, rfl, rfl, rfl, rfl, fun j hj => ?_⟩)⟩
    have e1 : (s_zr 120 40 (q_up (q_up (s_row_ 69 (fun _ => (0 : Int32)) 40 (q_up (q_up g 68 2 (Int32.ofNat l)) 68 1 (Int32.ofNat v))) 84 3 (Int32.ofNat l)) 85 3 (Int32.ofNat v))) 69 j = 0 := by
      unfold s_zr
      rw [if_neg (by decide), q_up_ne (by decide), q_up_ne (by decide)]
      unfold s_row_
      rw [if_pos rfl, if_pos hj]
    have e2 : (s_zr 120 40 (q_up (q_up (s_row_ 69 (fun _ => (0 : Int32)) 40 (q_up (q_up g 68 2 (Int32.ofNat l)) 68 1 (Int32.ofNat v))) 84 3 (Int32.ofNat l)) 85 3 (Int32.ofNat v))) 86 (40 * 3 + j) = 0 := by
      unfold s_zr
      rw [if_pos rfl, if_pos (by omega)]
    exact e1.trans e2.symm
  · rw [if_neg h0] at q1
    exact w_2n h q1 (rg_sheetn3 g u l2 (Int32.not_le.mp h0))
theorem pr_lay3 (x y : Int32) (g : qM) (u : qW) (h : w_R g) : w_2 134 221 [.int (3 : Int32), .int x, .int y] g u := by
  obtain ⟨n, W, H, z, h⟩ := h
  rcases h.2.2.2.2.2 3 (by omega) with ⟨a1, a2⟩ | ⟨l, v, a1, a2, a3, a4, a5, a6, a7⟩
  · have hf : d_faultAt3 x g = 1 := by
      unfold d_faultAt3 d_isNothing3
      rw [show g 68 1 = _ from a2, if_pos rfl, if_neg (by decide)]
    exact w_2n h (cg_lay3f1 g u hf) (rg_lay3f1 g u a1)
  · have hn : d_isNothing3 g = 0 := by
      unfold d_isNothing3
      rw [show g 68 1 = Int32.ofNat v from a5, if_neg (k_nm1 (by omega))]
    by_cases hb : v_one v x
    · obtain ⟨i, hi, rfl⟩ := hb
      have hf : d_faultAt3 (Int32.ofNat i) g = 0 := by
        unfold d_faultAt3
        rw [hn, if_pos rfl, if_neg (show ¬ Int32.ofNat i < 0 from fun y => absurd ((q_lt (j := 0) (by omega) (by omega)).mp y) (by omega)), if_pos (by rw [show g 68 1 = Int32.ofNat v from a5]; exact (q_lt (by omega) (by omega)).mpr hi)]
      have q1 := cg_lay3 (v := y) g u a2 a5 hi hf
      have q2 := rg_lay3 (v := y) (q_up g 69 i (s_ln (g 68 2) y)) u a2 a1 a6 a3 hi
      rw [show (q_up g 69 i (s_ln (g 68 2) y)) 84 3 = g 68 2 from a3.trans a4.symm] at q2
      refine ⟨_, _, _, _, _, q1, q2, n, W, H, z, h.shee (k := 3) (by omega) (((w_fs_rfl 3 g).up (by omega) (by omega)).up (by omega) (by omega)) (Or.inr ⟨l, v, a1, a2, a3, a4, a5, a6, fun j hj => ?_⟩)⟩
      rw [q_up_ne (by decide), q_up_at, q_up_at, q_up_ne (by decide)]
      by_cases e : j = i
      · rw [if_pos e, if_pos (by omega)]
      · rw [if_neg e, if_neg (by omega)]
        exact a7 j hj
    · have hno : ¬ (0 ≤ x.toInt ∧ x.toInt < (v : Int)) := fun y => hb ⟨x.toInt.toNat, by omega, q_of y.1⟩
      have hf : d_faultAt3 x g = 2 := by
        unfold d_faultAt3
        rw [hn, if_pos rfl]
        by_cases c : x < 0
        · rw [if_pos c]
        · rw [if_neg c, if_neg]
          intro c2
          rw [show g 68 1 = Int32.ofNat v from a5, Int32.lt_iff_toInt_lt, q_nat (by omega)] at c2
          rw [Int32.lt_iff_toInt_lt] at c
          have z0 : (0 : Int32).toInt = 0 := rfl
          exact hno ⟨by omega, c2⟩
      have hin : s_in (Int32.toInt64 x) (0 : Int64) (Int32.toInt64 ((g 85 3) - (1 : Int32))) = 0 := by
        refine Classical.byContradiction (fun c => hno ?_)
        rw [s_in_i, show (0 : Int64).toInt = 0 from rfl, Int32.toInt_toInt64, a6, s_sub (by rw [q_nat (by omega), show (1 : Int32).toInt = 1 from rfl]; omega) (by rw [q_nat (by omega), show (1 : Int32).toInt = 1 from rfl]; omega), q_nat (by omega), show (1 : Int32).toInt = 1 from rfl] at c
        omega
      exact w_2n h (cg_lay3f2 g u hf) (rg_lay3f2 g u (by rw [a3]; exact k_nne (by omega)) hin)
theorem k_fop3 {g : qM} {v : Nat} {f : Int32} (hn : d_isNothing3 g = 0) (hs : g 68 1 = Int32.ofNat v) (hv : v ≤ 40) (hI : ¬ (0 ≤ f.toInt ∧ f.toInt + 1 < (v : Int))) : ¬ d_fop3 f g = 0 := by
  unfold d_fop3 d_faultAt3
  rw [hn, if_pos rfl, if_pos rfl, hs]
  have z0 : (0 : Int32).toInt = 0 := rfl
  have z1 : (1 : Int32).toInt = 1 := rfl
  by_cases c : f < 0
  · rw [if_pos c, if_neg (by decide)]
    decide
  · rw [if_neg c]
    rw [Int32.lt_iff_toInt_lt] at c
    by_cases c2 : f < Int32.ofNat v
    · rw [if_pos c2, if_pos rfl]
      rw [Int32.lt_iff_toInt_lt, q_nat (by omega)] at c2
      have e : (f + 1).toInt = f.toInt + 1 := by rw [s_add (by omega) (by omega), z1]
      rw [if_neg (show ¬ f + 1 < 0 from fun y => by rw [Int32.lt_iff_toInt_lt, e] at y; omega), if_neg (show ¬ f + 1 < Int32.ofNat v from fun y => by rw [Int32.lt_iff_toInt_lt, e, q_nat (by omega)] at y; omega)]
      decide
    · rw [if_neg c2, if_neg (by decide)]
      decide
theorem pr_read3 (f : Int32) (l0 m : Nat) (g : qM) (u : qW) (h : w_R g) (hl : l0 ≤ 2) (hm : m ≤ 20) : w_2 138 222 [.int (3 : Int32), .int (Int32.ofNat l0), .int f, .int (Int32.ofNat m)] g u := by
  obtain ⟨n, W, H, z, h⟩ := h
  have h5 := h.n5
  have h25 := h.wh
  have ok := h.ok
  have cs := h.cs
  have hgo := h.hgo
  obtain ⟨hn, hW, hH⟩ := h.1
  have hn2 : g 20 3 = Int32.ofNat n := h.2.1.1.2.2.2.1
  have hW2 : g 20 0 = Int32.ofNat W := h.2.1.1.1
  have hH2 : g 20 1 = Int32.ofNat H := h.2.1.1.2.1
  have hla := k_lane (g := g) hl
  have rel : ∀ x y, w_R4 n W H z (q_up (s_had (q_up g 8 8 x)) 70 33 y) := fun x y => h.town ((((w_fo_rfl g).up (by omega)).trans ⟨fun a ha => s_had_o (by omega), ⟨by rw [s_had_o (by decide)], by rw [s_had_o (by decide)], by rw [s_had_o (by decide)]⟩, fun j _ => by rw [s_had_o (by decide)], fun j _ => by rw [s_had_o (by decide)]⟩).up (by omega)) (h.2.1.same (fun a h1 h2 => by rw [q_up_ne (by omega), s_had_o (by omega), q_up_ne (by omega)]) (by rw [q_up_ne (by decide), s_had_o (by decide), q_up_ne (by decide)]))
  rcases h.2.2.2.2.2 3 (by omega) with ⟨a1, a2⟩ | ⟨l, v, a1, a2, a3, a4, a5, a6, a7⟩
  · have hn1 : d_isNothing3 g = 1 := by
      unfold d_isNothing3
      rw [show g 68 1 = _ from a2, if_pos rfl]
    have hf : d_faultAs3 (Int32.ofNat l0) g = 0 := by
      unfold d_faultAs3
      rw [hn1, if_neg (by decide)]
    by_cases hm1 : 1 ≤ m
    · have hp : ¬ d_fop3 (f + ((2 : Int32) * (0 : Int32))) g = 0 := by
        have e1 : ∀ y, d_faultAt3 y g = 1 := fun y => by
          unfold d_faultAt3
          rw [hn1, if_neg (by decide)]
        unfold d_fop3
        rw [e1, e1, if_neg (show ¬ (1 : Int32) = 0 by decide)]
        decide
      obtain ⟨x, q2⟩ := rr_zN3 (f := f) (q_up g 8 8 (d_fop3 (f + ((2 : Int32) * (0 : Int32))) g)) u hl hm hm1 a1
      exact ⟨_, _, _, _, _, cr_zC3 g u hm hla hm1 hf hp, q2, n, W, H, z, rel _ _⟩
    · have e : m = 0 := by omega
      subst e
      obtain ⟨x, q2⟩ := rr_z03 (f := f) (q_up g 8 8 (d_faultAs3 (Int32.ofNat l0) g)) u hl
      exact ⟨_, _, _, _, _, cr_zB3 g u hla hf, q2, n, W, H, z, rel _ _⟩
  · have hn1 : d_isNothing3 g = 0 := by
      unfold d_isNothing3
      rw [show g 68 1 = Int32.ofNat v from a5, if_neg (k_nm1 (by omega))]
    have hno : ¬ g 84 3 = i_none := by rw [a3]; exact k_nne (by omega)
    by_cases hll : l = l0
    · subst hll
      have hf : d_faultAs3 (Int32.ofNat l) g = 0 := by
        unfold d_faultAs3
        rw [hn1, if_pos rfl, if_pos a4]
      by_cases hm1 : 1 ≤ m
      · by_cases hI : 0 ≤ f.toInt ∧ f.toInt + 1 < (v : Int)
        · obtain ⟨j0, hj0, rfl⟩ : v_one v f := ⟨f.toInt.toNat, by omega, q_of hI.1⟩
          rw [q_nat (by omega)] at hI
          have hrow : ∀ j, j < 40 → g 69 j = g 86 (120 + j) := fun j hj => a7 j hj
          have htl : ∀ j, j + 1 < v → n_tl n (g 69) j = n_tl n (fun j => g 86 (120 + j)) j := fun j hj => n_tl_cg (hrow j (by omega)) (hrow (j + 1) (by omega))
          have hrd : f_rd (n_tl n (g 69)) v j0 m 0 = f_rd (n_tl n (fun j => g 86 (120 + j))) v j0 m 0 := f_rd_cg htl m 0
          obtain ⟨_, q1, hq⟩ := cr_ok3 (la := Int32.ofNat l) (j0 := j0) u hn2 (by omega) a2 a5 (by omega) hm hla hf
          rcases hq with ⟨w, fd, hw, rfl⟩ | ⟨w, hw, rfl⟩
          · have hG := (f_ws_ok (row := (fun j => g 86 (120 + j))) (j0 := j0) h5 w 0 (g 22) (fun q => g 71 (5 + q)) (fun x h1 h2 => ?_) (fun p hp => (h.2.1.2.2.2.2.1 p hp).2.1) h.2.1.2.2.2.2.2.2.2.2.2.1)
            · have hfw : f_ws (g 69) j0 w 0 (g 22) = f_ws (fun j => g 86 (120 + j)) j0 w 0 (g 22) := f_ws_cg w 0 _ (fun x h1 h2 => by
                have y := ((f_rd_le m 0 w true hw).2.2 x h1 (by omega)).2
                exact ⟨hrow _ (by omega), hrow (j0 + 2 * x + 1) (by omega)⟩)
              rw [hfw] at q1
              have hg71 : q_up (s_m22 (f_ws (fun j => g 86 (120 + j)) j0 w 0 (g 22)) g) 8 8 fd 71 = g 71 := rfl
              have hg86 : q_up (s_m22 (f_ws (fun j => g 86 (120 + j)) j0 w 0 (g 22)) g) 8 8 fd 86 = g 86 := rfl
              obtain ⟨_, q2, hr⟩ := rr_ok3 (g := q_up (s_m22 (f_ws (fun j => g 86 (120 + j)) j0 w 0 (g 22)) g) 8 8 fd) u hn hW hH h5 h25 a2 a6 hno a3 (show j0 < 40 by omega) hm hl h.2.1.2.2.2.2.2.2.2.2.2.1
              rw [hg71, hg86] at hr
              rcases hr with ⟨w', rs, hw', rfl⟩ | ⟨w', hw', rfl⟩
              · have ew : w' = w := by
                  have y := hrd.symm.trans hw
                  rw [hw'] at y
                  exact congrArg Prod.fst y
                subst ew
                have kr := k_rd (g := g) (F := f_ws (fun j => g 86 (120 + j)) j0 w' 0 (g 22)) (G := f_ws (fun j => g 86 (120 + j)) j0 w' 0 (fun q => g 71 (5 + q))) (fd := fd) (rs := rs)
                refine ⟨_, _, _, _, _, q1, q2, n, W, H, z, h.town ⟨fun a ha => ?_, ⟨?_, ?_, ?_⟩, fun j hj => ?_, fun j hj => ?_⟩ (w_TT.of (h.2.1.moods hG.1 hG.2) ?_ ?_ ?_ ?_ ?_ ?_ ?_ ?_ ?_)⟩
                · exact kr.1 a (by omega) (by omega) (by omega) (by omega) (by omega)
                · exact kr.2.2.2.1
                · rw [kr.1 9 (by decide) (by decide) (by decide) (by decide) (by decide)]
                · rw [kr.1 11 (by decide) (by decide) (by decide) (by decide) (by decide)]
                · exact kr.2.2.2.2 j (by omega)
                · rw [kr.2.2.1]
                  exact if_neg (by omega)
                · exact kr.1 20 (by decide) (by decide) (by decide) (by decide) (by decide)
                · exact kr.1 21 (by decide) (by decide) (by decide) (by decide) (by decide)
                · exact kr.2.1
                · exact kr.1 23 (by decide) (by decide) (by decide) (by decide) (by decide)
                · exact kr.1 24 (by decide) (by decide) (by decide) (by decide) (by decide)
                · exact kr.1 25 (by decide) (by decide) (by decide) (by decide) (by decide)
                · exact kr.1 26 (by decide) (by decide) (by decide) (by decide) (by decide)
                · exact kr.1 27 (by decide) (by decide) (by decide) (by decide) (by decide)
                · exact kr.2.2.1
              · exact absurd (hw'.symm.trans (hrd.symm.trans hw)) (fun y => by cases y)
            · rw [← htl _ (by have y := ((f_rd_le m 0 w true hw).2.2 x h1 (by omega)).2; omega)]
              exact ((f_rd_le m 0 w true hw).2.2 x h1 (by omega)).1
          · obtain ⟨_, q2, hr⟩ := rr_ok3 (g := g) u hn hW hH h5 h25 a2 a6 hno a3 (show j0 < 40 by omega) hm hl h.2.1.2.2.2.2.2.2.2.2.2.1
            rcases hr with ⟨w', rs, hw', rfl⟩ | ⟨w', hw', rfl⟩
            · exact absurd (hw'.symm.trans (hrd.symm.trans hw)) (fun y => by cases y)
            · have ew : w' = w := by
                have y := hrd.symm.trans hw
                rw [hw'] at y
                exact congrArg Prod.fst y
              subst ew
              exact ⟨_, _, _, _, _, q1, q2, n, W, H, z, h.town ⟨fun a ha => s_had_o (by omega), ⟨by rw [s_had_o (by decide)], by rw [s_had_o (by decide)], by rw [s_had_o (by decide)]⟩, fun j _ => by rw [s_had_o (by decide)], fun j _ => by rw [s_had_o (by decide)]⟩ (h.2.1.same (fun a h1 h2 => s_had_o (by omega)) (s_had_o (by decide)))⟩
        · have hp : ¬ d_fop3 (f + ((2 : Int32) * (0 : Int32))) g = 0 := by
            rw [k_f0]
            exact k_fop3 hn1 a5 a2 hI
          obtain ⟨x, q2⟩ := rr_zI3 (f := f) (q_up g 8 8 (d_fop3 (f + ((2 : Int32) * (0 : Int32))) g)) u hl hm hm1 hno a3 a2 a6 hI
          exact ⟨_, _, _, _, _, cr_zC3 g u hm hla hm1 hf hp, q2, n, W, H, z, rel _ _⟩
      · have e : m = 0 := by omega
        subst e
        obtain ⟨x, q2⟩ := rr_z03 (f := f) (q_up g 8 8 (d_faultAs3 (Int32.ofNat l) g)) u hl
        exact ⟨_, _, _, _, _, cr_zB3 g u hla hf, q2, n, W, H, z, rel _ _⟩
    · have hnl : ¬ Int32.ofNat l = Int32.ofNat l0 := fun y => hll ((q_eq (by omega) (by omega)).mp y)
      have hf : ¬ d_faultAs3 (Int32.ofNat l0) g = 0 := by
        unfold d_faultAs3
        rw [hn1, if_pos rfl, if_neg (fun y => hnl (a4.symm.trans y))]
        decide
      by_cases hm1 : 1 ≤ m
      · obtain ⟨x, q2⟩ := rr_zL3 (f := f) (q_up g 8 8 (d_faultAs3 (Int32.ofNat l0) g)) u hl hm hm1 hno (fun y => hnl (a3.symm.trans y))
        exact ⟨_, _, _, _, _, cr_zA3 g u hm hla hf, q2, n, W, H, z, rel _ _⟩
      · have e : m = 0 := by omega
        subst e
        obtain ⟨x, q2⟩ := rr_z03 (f := f) (q_up g 8 8 (d_faultAs3 (Int32.ofNat l0) g)) u hl
        exact ⟨_, _, _, _, _, cr_zA3 g u hm hla hf, q2, n, W, H, z, rel _ _⟩
theorem pr_sheet (x y v : Int32) (g : qM) (u : qW) (h : w_R g) : w_2 130 219 [.int x, .int y, .int v] g u := by
  obtain ⟨n, W, H, z, h⟩ := h
  have h5 := h.n5
  have h25 := h.wh
  have ok := h.ok
  have cs := h.cs
  have hgo := h.hgo
  obtain ⟨hn, hW, hH⟩ := h.1
  have hn2 : g 20 3 = Int32.ofNat n := h.2.1.1.2.2.2.1
  have hW2 : g 20 0 = Int32.ofNat W := h.2.1.1.1
  have hH2 : g 20 1 = Int32.ofNat H := h.2.1.1.2.1
  by_cases hb : v_rg 0 3 x ∧ v_rg 0 2 y ∧ v ≤ (40 : Int32)
  · obtain ⟨⟨m, m0, m1, rfl⟩, hr⟩ := hb
    rcases (show m = 0 ∨ m = 1 ∨ m = 2 ∨ m = 3 by omega) with e | e | e | e
    · subst e
      exact pr_sheet0 y v g u ⟨n, W, H, z, h⟩ hr
    · subst e
      exact pr_sheet1 y v g u ⟨n, W, H, z, h⟩ hr
    · subst e
      exact pr_sheet2 y v g u ⟨n, W, H, z, h⟩ hr
    · subst e
      exact pr_sheet3 y v g u ⟨n, W, H, z, h⟩ hr
  · exact w_2n h (cb_sheet g u hn2 hW2 hH2 (by omega) h25 x y v hb) (rb_sheet g u hn hW hH (by omega) h25 x y v hb)
theorem pr_lay (x y v : Int32) (g : qM) (u : qW) (h : w_R g) : w_2 134 221 [.int x, .int y, .int v] g u := by
  obtain ⟨n, W, H, z, h⟩ := h
  have h5 := h.n5
  have h25 := h.wh
  have ok := h.ok
  have cs := h.cs
  have hgo := h.hgo
  obtain ⟨hn, hW, hH⟩ := h.1
  have hn2 : g 20 3 = Int32.ofNat n := h.2.1.1.2.2.2.1
  have hW2 : g 20 0 = Int32.ofNat W := h.2.1.1.1
  have hH2 : g 20 1 = Int32.ofNat H := h.2.1.1.2.1
  by_cases hb : v_rg 0 3 x
  · obtain ⟨m, m0, m1, rfl⟩ := hb
    rcases (show m = 0 ∨ m = 1 ∨ m = 2 ∨ m = 3 by omega) with e | e | e | e
    · subst e
      exact pr_lay0 y v g u ⟨n, W, H, z, h⟩
    · subst e
      exact pr_lay1 y v g u ⟨n, W, H, z, h⟩
    · subst e
      exact pr_lay2 y v g u ⟨n, W, H, z, h⟩
    · subst e
      exact pr_lay3 y v g u ⟨n, W, H, z, h⟩
  · exact w_2n h (cb_lay g u hn2 hW2 hH2 (by omega) h25 x y v hb) (rb_lay g u hn hW hH (by omega) h25 x y v hb)
theorem pr_read (x y v w : Int32) (g : qM) (u : qW) (h : w_R g) : w_2 138 222 [.int x, .int y, .int v, .int w] g u := by
  obtain ⟨n, W, H, z, h⟩ := h
  have h5 := h.n5
  have h25 := h.wh
  have ok := h.ok
  have cs := h.cs
  have hgo := h.hgo
  obtain ⟨hn, hW, hH⟩ := h.1
  have hn2 : g 20 3 = Int32.ofNat n := h.2.1.1.2.2.2.1
  have hW2 : g 20 0 = Int32.ofNat W := h.2.1.1.1
  have hH2 : g 20 1 = Int32.ofNat H := h.2.1.1.2.1
  by_cases hb : v_rg 0 3 x ∧ v_rg 0 2 y ∧ v_rg 0 20 w
  · obtain ⟨⟨m, m0, m1, rfl⟩, ⟨l, l0, l1, rfl⟩, t, t0, t1, rfl⟩ := hb
    rcases (show m = 0 ∨ m = 1 ∨ m = 2 ∨ m = 3 by omega) with e | e | e | e
    · subst e
      exact pr_read0 v l t g u ⟨n, W, H, z, h⟩ l1 t1
    · subst e
      exact pr_read1 v l t g u ⟨n, W, H, z, h⟩ l1 t1
    · subst e
      exact pr_read2 v l t g u ⟨n, W, H, z, h⟩ l1 t1
    · subst e
      exact pr_read3 v l t g u ⟨n, W, H, z, h⟩ l1 t1
  · exact w_2n h (cb_read g u hn2 hW2 hH2 (by omega) h25 x y v w hb) (rb_read g u hn hW hH (by omega) h25 x y v w hb)
end
section
/-! BOTH SIDES of the tape, and of the STEPS. -/
theorem s_step_b {n : Nat} {g : qM} {b j : Nat} (h1 : b < 28 ∨ 33 < b) (h2 : b ≠ 21 ∧ b ≠ 22) : s_flip 20 n (s_move 20 n (s_wg 20 n g)) b j = g b j := by
  show (if b = 20 + 2 then _ else if b = 28 then _ else s_move 20 n (s_wg 20 n g) b j) = _
  rw [if_neg (by omega), if_neg (by omega)]
  show (if b = 20 + 1 then _ else if b = 29 then _ else if b = 30 then _ else if b = 28 then _ else s_wg 20 n g b j) = _
  rw [if_neg (by omega), if_neg (by omega), if_neg (by omega), if_neg (by omega)]
  show (if b = 33 then _ else s_H (g 20 0) (g (20 + 1)) (g (20 + 2)) (g (20 + 5)) n g b j) = _
  rw [if_neg (by omega)]
  show (if b = 31 then _ else if b = 32 then _ else s_W1 (g 20 0) (g (20 + 1)) n g b j) = _
  rw [if_neg (by omega), if_neg (by omega)]
  show (if b = 29 then _ else if b = 30 then _ else if b = 31 then _ else if b = 32 then _ else g b j) = _
  rw [if_neg (by omega), if_neg (by omega), if_neg (by omega), if_neg (by omega)]
theorem s_step_6 {n : Nat} {g : qM} : s_step 20 n g 20 6 = g 20 6 := by
  unfold s_step
  rw [q_up_at, if_neg (by decide)]
  exact s_step_b (by omega) (by omega)
theorem s_tss_6 {n : Nat} : ∀ k g, s_tss 20 n k g 20 6 = g 20 6
  | 0, _ => rfl
  | k + 1, g => by
    unfold s_tss
    split
    · exact s_step_6
    · exact (s_tss_6 k _).trans s_step_6
theorem s_tss_g {n : Nat} {b : Nat} (h1 : b < 28 ∨ 33 < b) (h2 : b ≠ 20 ∧ b ≠ 21 ∧ b ≠ 22) : ∀ k g, s_tss 20 n k g b = g b
  | 0, _ => rfl
  | k + 1, g => by
    unfold s_tss
    split
    · exact s_step_g h1 h2
    · exact (s_tss_g h1 h2 k _).trans (s_step_g h1 h2)
theorem s_rst_b {n : Nat} {g : qM} {b q : Nat} (h : b = 76) (hq : n ≤ q) : s_rst n g b q = g b q := by
  show (if b = 76 then (if q < n then _ else s_r3 n g 76 q) else _) = _
  rw [if_pos h, if_neg (by omega), ← h]
  show (if b = 81 then _ else s_r2 n g b q) = _
  rw [if_neg (by omega)]
  show (if b = 75 then _ else if b = 80 then _ else s_r1 n g b q) = _
  rw [if_neg (by omega), if_neg (by omega)]
  show (if b = 79 then _ else g b q) = _
  rw [if_neg (by omega)]
theorem s_rst_76 {n : Nat} {g : qM} {q : Nat} (h : n ≤ q) : s_rst n g 76 q = g 76 q := s_rst_b rfl h
theorem s_rit_76 {n q : Nat} (h : n ≤ q) : ∀ k g, s_rit n k g 76 q = g 76 q
  | 0, _ => rfl
  | k + 1, g => (s_rit_76 h k (s_rst n g)).trans (s_rst_76 h)
theorem k_i8 {x : Int32} (h1 : 0 ≤ x.toInt) (h2 : x.toInt ≤ 127) : Int8.toInt32 (Int32.toInt8 (Int8.toInt32 (Int32.toInt8 x))) = x := by
  have z : (List.range 128).all (fun m => decide (Int8.toInt32 (Int32.toInt8 (Int8.toInt32 (Int32.toInt8 (Int32.ofNat m)))) = Int32.ofNat m)) = true := by decide +kernel
  have y := of_decide_eq_true (List.all_eq_true.mp z x.toInt.toNat (List.mem_range.mpr (by omega)))
  rw [← q_of h1] at y
  exact y
/-- what stands outside the tape is the same -/
theorem w_R4.tape {n W H z : Nat} {g g' : qM} (h : w_R4 n W H z g) (e : ∀ a, a ≠ 9 → a ≠ 10 → a ≠ 70 → a ≠ 74 → g' a = g a) (e70 : ∀ j, j ≠ 13 → g' 70 j = g 70 j) (hP : w_P g') : w_R4 n W H z g' := by
  obtain ⟨hN, hT, hK, _, hF, hS⟩ := h
  refine ⟨⟨(e70 4 (by omega)).trans hN.1, (e70 2 (by omega)).trans hN.2.1, (e70 3 (by omega)).trans hN.2.2⟩, hT.same (fun a h1 h2 => e a (by omega) (by omega) (by omega) (by omega)) (e 71 (by omega) (by omega) (by omega) (by omega)), hK.cg (by rw [e 8 (by omega) (by omega) (by omega) (by omega)]) (e 72 (by omega) (by omega) (by omega) (by omega)) (fun a h1 h2 => e a (by omega) (by omega) (by omega) (by omega)) (fun j hj => by rw [e 71 (by omega) (by omega) (by omega) (by omega)]), hP, ?_, fun k hk => ?_⟩
  · rw [e 11 (by omega) (by omega) (by omega) (by omega), e70 18 (by omega)]; exact hF
  · exact (hS k hk).cg (by rw [e 84 (by omega) (by omega) (by omega) (by omega)]) (by rw [e 85 (by omega) (by omega) (by omega) (by omega)]) (e _ (by omega) (by omega) (by omega) (by omega)) (e _ (by omega) (by omega) (by omega) (by omega)) (fun j hj => by rw [e 86 (by omega) (by omega) (by omega) (by omega)])
theorem pr_feed (x : Int32) (g : qM) (u : qW) (h : w_R g) : w_2 10 148 [.int x] g u := by
  obtain ⟨n, W, H, z, h⟩ := h
  obtain ⟨s, s1, s2, s3, s4⟩ := h.2.2.2.1
  have q1 := b_feed x s g u s2 s1
  have q2 := fun g1 (e : g1 70 13 = Int32.ofNat s) => b_rfeed x s g1 u e s1
  have c0 : (0 : Int32).toInt = 0 := rfl
  have c7 : (127 : Int32).toInt = 127 := rfl
  have d0 : (0 : Int64).toInt = 0 := rfl
  have d7 : (127 : Int64).toInt = 127 := rfl
  by_cases hb : 0 ≤ x.toInt ∧ x.toInt ≤ 127
  · have a1 : ¬ x < 0 := fun y => by rw [Int32.lt_iff_toInt_lt] at y; omega
    have a2 : x ≤ 127 := Int32.le_iff_toInt_le.mpr (by omega)
    have a3 : ¬ s_in (Int32.toInt64 x) (0 : Int64) (127 : Int64) = 0 := s_in_i.mpr (by omega)
    unfold d_feed at q1
    rw [if_neg a1, if_pos a2, k_i8 hb.1 hb.2] at q1
    by_cases hs : s < 160
    · rw [if_pos (show g 9 1 < 160 from by rw [s2]; exact (q_lt (j := 160) (by omega) (by omega)).mpr hs), s2, q_succ] at q1
      have q3 := q2 (q_up (q_up g 10 s x) 9 1 (Int32.ofNat (s + 1))) s3
      unfold d_rfeed at q3
      rw [if_neg a3, if_neg (show ¬ q_up (q_up g 10 s x) 9 1 (Int32.ofNat (s + 1)) 70 13 = 160 from fun y => by
        have y2 : g 70 13 = Int32.ofNat 160 := y
        rw [s3] at y2
        have := (q_eq (by omega) (by omega)).mp y2
        omega), show q_up (q_up g 10 s x) 9 1 (Int32.ofNat (s + 1)) 70 13 = Int32.ofNat s from s3, q_succ] at q3
      refine ⟨_, _, _, _, _, q1, q3, n, W, H, z, h.tape (fun a h1 h2 h3 h4 => ?_) (fun j hj => ?_) ⟨s + 1, hs, rfl, rfl, fun j hj => ?_⟩⟩
      · rw [q_up_ne h3, q_up_ne h4, q_up_ne h1, q_up_ne h2]
      · rw [q_up_at, if_neg hj, q_up_ne (by decide), q_up_ne (by decide), q_up_ne (by decide)]
      · rw [q_up_ne (by decide), q_up_at, q_up_ne (by decide), q_up_ne (by decide), q_up_ne (by decide), q_up_ne (by decide), q_up_ne (by decide), q_up_at]
        by_cases e : j = s
        · rw [if_pos e, if_pos e]
          exact ⟨rfl, hb.1⟩
        · rw [if_neg e, if_neg e]
          exact s4 j (by omega)
    · have e : s = 160 := by omega
      rw [if_neg (show ¬ g 9 1 < 160 from fun y => by
        rw [s2] at y
        have := (q_lt (j := 160) (by omega) (by omega)).mp y
        omega)] at q1
      have q3 := q2 g s3
      unfold d_rfeed at q3
      rw [if_neg a3, if_pos (show g 70 13 = 160 from by rw [s3, e]; rfl)] at q3
      exact w_2n h q1 q3
  · have e1 : d_feed x s g u = (some (.int (Int32.ofInt (-1))), g, u) := by
      unfold d_feed
      by_cases c : x < 0
      · rw [if_pos c]
      · rw [if_neg c, if_neg]
        intro y
        rw [Int32.lt_iff_toInt_lt] at c
        rw [Int32.le_iff_toInt_le] at y
        omega
    have e2 : d_rfeed x s g u = (some (.int (Int32.ofInt (-1))), g, u) := by
      unfold d_rfeed
      rw [if_pos]
      refine Classical.byContradiction (fun c => hb ?_)
      have y := s_in_i.mp c
      omega
    have q3 := q2 g s3
    rw [e1] at q1
    rw [e2] at q3
    exact w_2n h q1 q3
theorem pr_end (x : Int32) (g : qM) (u : qW) (h : w_R g) : w_2 12 150 [.int x] g u := by
  obtain ⟨n, W, H, z, h⟩ := h
  obtain ⟨s, s1, s2, s3, s4⟩ := h.2.2.2.1
  have q1 := b_end x g u
  by_cases hb : v_rg 0 s x
  · obtain ⟨m, m0, m1, rfl⟩ := hb
    unfold d_end at q1
    rw [if_neg (show ¬ Int32.ofNat m < 0 from fun y => absurd ((q_lt (j := 0) (by omega) (by omega)).mp y) (by omega)), if_pos (show Int32.ofNat m ≤ g 9 1 from by rw [s2]; exact (q_le (by omega) (by omega)).mpr m1)] at q1
    have q2 := b_rend (Int32.ofNat m) (q_up g 9 1 (Int32.ofNat m)) u
    unfold d_rend at q2
    rw [if_neg (show ¬ s_in (Int32.toInt64 (Int32.ofNat m)) (0 : Int64) (Int32.toInt64 (q_up g 9 1 (Int32.ofNat m) 70 13)) = 0 from by
      rw [s_in_i, show (0 : Int64).toInt = 0 from rfl, Int32.toInt_toInt64, show q_up g 9 1 (Int32.ofNat m) 70 13 = Int32.ofNat s from s3, q_nat (by omega), q_nat (by omega)]
      omega), show q_up g 9 1 (Int32.ofNat m) 70 13 = g 9 1 from s3.trans s2.symm] at q2
    refine ⟨_, _, _, _, _, q1, q2, n, W, H, z, h.tape (fun a h1 h2 h3 h4 => ?_) (fun j hj => ?_) ⟨m, by omega, rfl, rfl, fun j hj => ?_⟩⟩
    · rw [q_up_ne h3, q_up_ne h1]
    · rw [q_up_at, if_neg hj, q_up_ne (by decide)]
    · rw [q_up_ne (by decide), q_up_ne (by decide), q_up_ne (by decide), q_up_ne (by decide)]
      exact s4 j (by omega)
  · have e1 : d_end x g u = (some (.int (Int32.ofInt (-1))), g, u) := by
      unfold d_end
      by_cases c : x < 0
      · rw [if_pos c]
      · rw [if_neg c, if_neg (fun y => hb (by rw [s2] at y; exact vr_c' (lo := 0) (by omega) (by omega) c y))]
    have e2 : d_rend x g u = (some (.int (Int32.ofInt (-1))), g, u) := by
      unfold d_rend
      rw [if_pos]
      refine Classical.byContradiction (fun c => hb ?_)
      rw [s_in_i, show (0 : Int64).toInt = 0 from rfl, Int32.toInt_toInt64, s3, q_nat (by omega)] at c
      exact v_nat c.1 c.2
    have q2 := b_rend x g u
    rw [e1] at q1
    rw [e2] at q2
    exact w_2n h q1 q2
theorem pr_text (g : qM) (u : qW) (h : w_R g) : w_2 13 151 [] g u := by
  obtain ⟨n, W, H, z, h⟩ := h
  obtain ⟨s, s1, s2, s3, s4⟩ := h.2.2.2.1
  obtain ⟨g1, q1, f1, f2, f3, f4, f5, f6⟩ := c_text (b := g 10) g u rfl s2 s1
  have hb : k_b (g 10) s g1 := ⟨by rw [f1 70 (by omega)]; exact s3, s1, fun j hj => by rw [f1 74 (by omega)]; exact s4 j hj⟩
  obtain ⟨_, q2, g2, rfl, e1, e2, e3, e4, e5, e6, e7⟩ := r_text g1 u hb
  have P : w_P g2 := ⟨0, by omega, by rw [e1 9 (by omega)]; exact f3, e4, fun j hj => absurd hj (by omega)⟩
  have F : g2 11 2 = g2 70 18 := by rw [e1 11 (by omega), e5]; exact f4
  have S : ∀ k, k < 4 → w_S k g2 := fun k hk => (h.2.2.2.2.2 k hk).cg (by rw [e1 84 (by omega), f1 84 (by omega)]) (by rw [e1 85 (by omega), f1 85 (by omega)]) (by rw [e1 _ (by omega), f1 _ (by omega)]) (by rw [e1 _ (by omega), f1 _ (by omega)]) (fun j hj => by rw [e1 86 (by omega), f1 86 (by omega)])
  by_cases e0 : (o_text (g 10) s).1.1 = 0
  · obtain ⟨k1, k2⟩ := f6 e0
    obtain ⟨c1, c2, c3, c4, c5, c6⟩ := e7 e0
    have hdn := (o_text_ok e0).1
    have hdm := (o_text_ok e0).2
    have hlt := (o_text_dm e0).2.2
    obtain ⟨N, eN, hN25, hmis⟩ := k_mis hdm hdn
    have hA := (hmis.mp hlt).1
    obtain ⟨⟨W', H', w1, w2, w3, w4, w5, w6⟩, d2, d3, d4, d5, d6, d7, d8, d9, d10⟩ := hdm
    have eNN : N = W' * H' := by
      rw [w5, w6, q_mul] at eN
      have hw := (k_wh (W := W') (H := H') ⟨w2, w4⟩).2
      exact ((q_eq (by omega) (by omega)).mp eN).symm
    refine ⟨_, _, _, _, _, q1, q2, t_n (o_text (g 10) s).1.2.2.2, W', H', 0, ⟨c6.trans hdn.1, c4.trans w5, c5.trans w6⟩, ?_, ⟨⟨0, by omega, by rw [e1 8 (by omega)]; exact k1, ⟨fun _ => rfl, fun _ => c1⟩, ⟨fun _ => rfl, fun _ => c2⟩⟩, fun y => absurd c1 y, fun y => absurd c2 y⟩, P, F, S⟩
    unfold w_TT
    rw [e1 20 (by omega), e1 21 (by omega), e1 22 (by omega), e1 23 (by omega), e1 24 (by omega), e1 25 (by omega), e1 26 (by omega), e1 27 (by omega)]
    obtain ⟨⟨b1, b2, b3, b4, b5, b6, b7⟩, b8, b9, b10⟩ := k2
    have h5 := hdn.2.1
    refine ⟨⟨b1.trans w5, b2.trans w6, b3.trans (c3 20 (by omega)).symm, b4.trans hdn.1, b5.trans (c3 25 (by omega)).symm, b6.trans ((c3 26 (by omega)).trans d10.1).symm, b7, (c3 27 (by omega)).trans d10.2⟩, ⟨w1, w2, w3, w4, h5, by omega⟩, ⟨0, by omega, (c3 26 (by omega)).trans d10.1⟩, fun d h1 h2 => ?_, fun p hp => ⟨?_, ?_, ?_, ?_⟩, fun k hk => absurd hk (by omega), fun p hp => ?_, fun p q hp hq hpq => ?_, fun p hp => ?_, fun q hq => ?_, fun p hp => ?_⟩
    · rw [c3 (20 + d) (by omega)]; exact b8 d h1 h2
    · rw [c3 p (by omega)]; exact (b9 p hp).1
    · rw [c3 (5 + p) (by omega)]; exact (b9 p hp).2.1
    · rw [c3 (10 + p) (by omega)]; exact (b9 p hp).2.2
    · rw [c3 (15 + p) (by omega)]; exact b10 p (by omega)
    · rw [c3 p (by omega)]
      obtain ⟨C, hC, eC⟩ := (d2 p hp).1
      have y := hA p hp
      rw [eC, q_nat (by omega)] at y
      exact ⟨C, by omega, eC⟩
    · rw [c3 p (by omega), c3 q (by omega)]; exact d3 p q hp hq hpq
    · rw [c3 p (by omega), c3 20 (by omega)]; exact d4 p hp
    · rw [c3 (5 + q) (by omega)]; exact d9 q hq
    · rw [c3 (10 + p) (by omega)]; exact (d2 p hp).2.2
  · have k1 := f5 e0
    obtain ⟨c1, c2, c3⟩ := e6 e0
    have e71 : g2 71 = g 71 := c1.trans (f1 71 (by omega))
    refine ⟨_, _, _, _, _, q1, q2, n, W, H, z, ⟨(c3 4 (by omega)).trans (by rw [f1 70 (by omega)]; exact h.1.1), (c3 2 (by omega)).trans (by rw [f1 70 (by omega)]; exact h.1.2.1), (c3 3 (by omega)).trans (by rw [f1 70 (by omega)]; exact h.1.2.2)⟩, h.2.1.same (fun a h1 h2 => (e1 a (by omega)).trans (k1 a (by omega))) e71, h.2.2.1.cg (by rw [e1 8 (by omega), k1 8 (by omega)]) (c2.trans (f1 72 (by omega))) (fun a h1 h2 => (e1 a (by omega)).trans (k1 a (by omega))) (fun j hj => by rw [e71]), P, F, S⟩
theorem pr_go1 {n W H z m : Nat} (g : qM) (u : qW) (h : w_R4 n W H z g) (hm : m ≤ 60) {t : Nat} (ht : g 71 26 = Int32.ofNat t) (htm : t + m ≤ 999) : w_2 75 196 [.int (Int32.ofNat m)] g u := by
  have h5 := h.n5
  have ok := h.ok
  have cs := h.cs
  have hgo := h.hgo
  have e5 : g 20 5 = Int32.ofNat t := h.2.1.1.2.2.2.2.2.1.trans ht
  have es : g 20 5 + Int32.ofNat m = Int32.ofNat (t + m) := by rw [e5, q_add]
  have q1 := c_go u ok cs hm hgo (by rw [es]; exact fun y => absurd ((q_le (i := 1000) (by omega) (by omega)).mp y) (by omega))
  rw [es] at q1
  generalize eg1 : q_up (s_tss 20 n m g) 20 5 (Int32.ofNat (t + m)) = g1 at q1
  have fg : ∀ b, (b < 28 ∨ 33 < b) → b ≠ 20 → b ≠ 21 → b ≠ 22 → g1 b = g b := fun b h1 h2 h3 h4 => by
    rw [← eg1, q_up_ne h2]
    exact s_tss_g h1 ⟨h2, h3, h4⟩ m g
  have e70 : g1 70 = g 70 := fg 70 (by omega) (by omega) (by omega) (by omega)
  have e71 : g1 71 = g 71 := fg 71 (by omega) (by omega) (by omega) (by omega)
  have hsm : w_sm n (s_start g1) (s_start g) := w_sms2 h5 e70 e71
  have hg1 : ∀ p, p < n → g1 71 (15 + p) = s_start g 78 p := fun p hp => by
    rw [e71]
    exact (w_sms0 (g := g) h5).2 p hp
  have es1 : g1 71 26 + Int32.ofNat m = Int32.ofNat (t + m) := by rw [e71, ht, q_add]
  have q2 := r_go (g := g1) u ok hsm h5 hm hg1 (by rw [es1]; exact fun y => absurd ((q_lt (i := 999) (by omega) (by omega)).mp y) (by omega))
  have okR := w_ok_rit m (s_start g1) (w_ok_sm ok hsm)
  have csR : w_cs 20 n (s_tss 20 n m g) (s_rit n m (s_start g1)) := w_cs_sm (w_tss20 ok cs m) (w_sm_rit m (s_start g1) (s_start g) ok hsm)
  generalize eR : s_rit n m (s_start g1) = R at okR csR
  have fR : ∀ b, b ≠ 75 → b ≠ 76 → b ≠ 79 → b ≠ 80 → b ≠ 81 → R b = s_start g1 b := fun b h1 h2 h3 h4 h5 => by
    rw [← eR]
    exact s_rit_g ⟨h1, h2, h3, h4, h5⟩ m _
  have eG : ∀ b, b ≠ 71 → s_rgo n m g1 b = R b := fun b hb => by
    funext j
    rw [← eR]
    exact if_neg hb
  have G71 : ∀ j, s_rgo n m g1 71 j = if j < 5 then R 75 j else if j < 10 then R 76 (j - 5) else if j = 26 then Int32.ofNat (t + m) else g 71 j := fun j => by
    show (if (71 : Nat) = 71 then (if j < 5 then s_rit n m (s_start g1) 75 j else if j < 10 then s_rit n m (s_start g1) 76 (j - 5) else if j = 26 then g1 71 26 + Int32.ofNat m else g1 71 j) else _) = _
    rw [if_pos rfl, eR, es1, e71]
  have Gc : ∀ b, b ≠ 71 → b ≠ 75 → b ≠ 76 → b ≠ 79 → b ≠ 80 → b ≠ 81 → b ≠ 70 → b ≠ 77 → b ≠ 78 → s_rgo n m g1 b = g1 b := fun b h1 h2 h3 h4 h5 h6 h7 h8 h9 => by
    rw [eG b h1, fR b h2 h3 h4 h5 h6]
    exact s_start_o ⟨h7, h2, h3, h8, h9⟩
  have G70 : ∀ j, j ≠ 27 → s_rgo n m g1 70 j = g 70 j := fun j hj => by
    rw [eG 70 (by decide), fR 70 (by decide) (by decide) (by decide) (by decide) (by decide)]
    show (if j = 27 then g1 70 4 else g1 70 j) = _
    rw [if_neg hj, e70]
  have R71 : R 71 = g 71 := by
    rw [fR 71 (by decide) (by decide) (by decide) (by decide) (by decide), s_start_o (by decide), e71]
  have R77 : ∀ p, p < 5 → R 77 p = g 71 (10 + p) := fun p hp => by
    rw [fR 77 (by decide) (by decide) (by decide) (by decide) (by decide)]
    show (if p < 5 then g1 71 (10 + p) else g1 77 p) = _
    rw [if_pos hp, e71]
  have Gtss : ∀ j, j ≠ 5 → g1 20 j = s_tss 20 n m g 20 j := fun j hj => by rw [← eg1, q_up_at, if_neg hj]
  have G5 : g1 20 5 = Int32.ofNat (t + m) := by rw [← eg1]; exact (q_up_at).trans (if_pos rfl)
  have Gr : ∀ b, b ≠ 20 → g1 b = s_tss 20 n m g b := fun b hb => by rw [← eg1, q_up_ne hb]
  obtain ⟨t1, t2, t3, t4, t5, t6, t7, t8, t9, t10, t11⟩ := h.2.1
  refine ⟨_, _, _, _, _, q1, q2, n, W, H, z, h.town ⟨fun a ha => ?_, ⟨?_, ?_, ?_⟩, fun j hj => G70 j (by omega), fun j hj => ?_⟩ ?_⟩
  · rw [Gc a (by omega) (by omega) (by omega) (by omega) (by omega) (by omega) (by omega) (by omega) (by omega)]
    exact fg a (by omega) (by omega) (by omega) (by omega)
  · rw [Gc 8 (by omega) (by omega) (by omega) (by omega) (by omega) (by omega) (by omega) (by omega) (by omega), fg 8 (by omega) (by omega) (by omega) (by omega)]
  · rw [Gc 9 (by omega) (by omega) (by omega) (by omega) (by omega) (by omega) (by omega) (by omega) (by omega), fg 9 (by omega) (by omega) (by omega) (by omega)]
  · rw [Gc 11 (by omega) (by omega) (by omega) (by omega) (by omega) (by omega) (by omega) (by omega) (by omega), fg 11 (by omega) (by omega) (by omega) (by omega)]
  · rw [G71 j, if_neg (by omega), if_neg (by omega), if_neg (by omega)]
  · unfold w_TT
    rw [Gc 20 (by omega) (by omega) (by omega) (by omega) (by omega) (by omega) (by omega) (by omega) (by omega), Gc 21 (by omega) (by omega) (by omega) (by omega) (by omega) (by omega) (by omega) (by omega) (by omega), Gc 22 (by omega) (by omega) (by omega) (by omega) (by omega) (by omega) (by omega) (by omega) (by omega), Gc 23 (by omega) (by omega) (by omega) (by omega) (by omega) (by omega) (by omega) (by omega) (by omega), Gc 24 (by omega) (by omega) (by omega) (by omega) (by omega) (by omega) (by omega) (by omega) (by omega), Gc 25 (by omega) (by omega) (by omega) (by omega) (by omega) (by omega) (by omega) (by omega) (by omega), Gc 26 (by omega) (by omega) (by omega) (by omega) (by omega) (by omega) (by omega) (by omega) (by omega), Gc 27 (by omega) (by omega) (by omega) (by omega) (by omega) (by omega) (by omega) (by omega) (by omega)]
    have s5 : ∀ p, p < 5 → s_rgo n m g1 71 p = R 75 p := fun p hp => by rw [G71, if_pos hp]
    have s10 : ∀ p, p < 5 → s_rgo n m g1 71 (5 + p) = R 76 p := fun p hp => by rw [G71, if_neg (by omega), if_pos (by omega), show 5 + p - 5 = p by omega]
    have sre : ∀ j, 10 ≤ j → j ≠ 26 → s_rgo n m g1 71 j = g 71 j := fun j h1 h2 => by rw [G71, if_neg (by omega), if_neg (by omega), if_neg h2]
    have s26 : s_rgo n m g1 71 26 = Int32.ofNat (t + m) := by rw [G71, if_neg (by omega), if_neg (by omega), if_pos rfl]
    generalize s_rgo n m g1 71 = st at s5 s10 sre s26
    refine ⟨⟨?_, ?_, ?_, ?_, ?_, ?_, ?_, ?_⟩, t2, ⟨t + m, htm, s26⟩, fun d h1 h2 => ?_, fun p hp => ⟨?_, ?_, ?_, ?_⟩, fun k hk => ?_, fun p hp => ?_, fun p q hp hq hpq => ?_, fun p hp => ?_, fun q hq => ?_, fun p hp => ?_⟩
    · rw [Gtss 0 (by omega), csR.1.2.1]; exact okR.2.2.1
    · rw [Gtss 1 (by omega), csR.1.2.2.1]; exact okR.2.2.2.1
    · rw [Gtss 2 (by omega), csR.1.2.2.2.1, R71, sre 20 (by omega) (by omega)]
    · rw [Gtss 3 (by omega), csR.1.1]; exact okR.2.1
    · rw [Gtss 4 (by omega), csR.1.2.2.2.2, R71, sre 25 (by omega) (by omega)]
    · rw [G5, s26]
    · rw [Gtss 6 (by omega), s_tss_6]; exact t1.2.2.2.2.2.2.1
    · rw [sre 27 (by omega) (by omega)]; exact t1.2.2.2.2.2.2.2
    · rw [fg 25 (by omega) (by omega) (by omega) (by omega), sre (20 + d) (by omega) (by omega)]; exact t4 d h1 h2
    · rw [Gr 21 (by omega), s5 p (by omega)]; exact (csR.2.2 p hp).1
    · rw [Gr 22 (by omega), s10 p (by omega)]; exact (csR.2.2 p hp).2.1
    · rw [Gr 23 (by omega), sre (10 + p) (by omega) (by omega), ← R77 p (by omega)]; exact (csR.2.2 p hp).2.2
    · rw [fg 24 (by omega) (by omega) (by omega) (by omega), sre (15 + p) (by omega) (by omega)]; exact (t5 p hp).2.2.2
    · rw [fg 26 (by omega) (by omega) (by omega) (by omega), fg 27 (by omega) (by omega) (by omega) (by omega), sre (28 + 2 * k) (by omega) (by omega), sre (29 + 2 * k) (by omega) (by omega)]; exact t6 k hk
    · rw [s5 p (by omega)]; exact okR.2.2.2.2.1 p hp
    · rw [s5 p (by omega), s5 q (by omega)]; exact okR.2.2.2.2.2.1 p q hp hq hpq
    · have y := okR.2.2.2.2.2.2.1 p hp
      rw [R71] at y
      rw [s5 p (by omega), sre 20 (by omega) (by omega)]
      exact y
    · rw [s10 q hq]
      by_cases hqn : q < n
      · exact okR.2.2.2.2.2.2.2.1 q hqn
      · rw [← eR, s_rit_76 (by omega)]
        show (if q < 5 then g1 71 (5 + q) else g1 76 q) = 0 ∨ (if q < 5 then g1 71 (5 + q) else g1 76 q) = 1 ∨ (if q < 5 then g1 71 (5 + q) else g1 76 q) = 2 ∨ (if q < 5 then g1 71 (5 + q) else g1 76 q) = 3
        rw [if_pos hq, e71]
        exact t10 q hq
    · rw [sre (10 + p) (by omega) (by omega)]; exact t11 p hp
theorem sg_gf_1 (big : Nat → List Value → qM → qW → qR) (n0 : Nat) (G : qM) (U : qW) (v0 : Int32) : qm_run pm_m big m_75 (n0 + 1) 0 [(0, .ref 8), (1, .int v0)] [] G U = qm_run pm_m big m_75 n0 1 [(0, .ref 8), (1, .int v0)] [.int v0] G U := rfl
theorem sg_gf_2 (big : Nat → List Value → qM → qW → qR) (n0 : Nat) (G : qM) (U : qW) (v0 : Int32) : qm_run pm_m big m_75 (n0 + 2) 4 [(0, .ref 8), (1, .int v0)] [] G U = qm_run pm_m big m_75 n0 7 [(0, .ref 8), (1, .int v0)] [.int (60 : Int32), .int v0] G U := rfl
theorem sg_gf_3 (big : Nat → List Value → qM → qW → qR) (n0 : Nat) (G : qM) (U : qW) (v0 : Int32) : qm_run pm_m big m_75 (n0 + 6) 12 [(0, .ref 8), (1, .int v0)] [] G U = qm_run pm_m big m_75 n0 24 [(0, .ref 8), (1, .int v0)] [.int (1000 : Int32), .int ((G 20 5) + v0)] G U := rfl
theorem sg_gf_4 (big : Nat → List Value → qM → qW → qR) (n0 : Nat) (G : qM) (U : qW) (v0 : Int32) : qm_run pm_m big m_196 (n0 + 4) 0 [(0, .ref 70), (1, .int v0)] [] G U = qm_run pm_m big m_196 n0 6 [(0, .ref 70), (1, .int v0)] [.long (60 : Int64), .long (0 : Int64), .long (Int32.toInt64 v0)] G U := rfl
theorem sg_gf_5 (big : Nat → List Value → qM → qW → qR) (n0 : Nat) (G : qM) (U : qW) (v0 : Int32) : qm_run pm_m big m_196 (n0 + 7) 14 [(0, .ref 70), (1, .int v0)] [] G U = qm_run pm_m big m_196 n0 26 [(0, .ref 70), (1, .int v0)] [.int (999 : Int32), .int ((G 71 26) + v0)] G U := rfl
theorem c_gof {m : Nat} (g : qM) (u : qW) (hm : m ≤ 60) (hs : 1000 ≤ g 20 5 + Int32.ofNat m) : q_BS 75 [.ref 8, .int (Int32.ofNat m)] g u (some (.int (Int8.toInt32 (Int8.ofInt (-3)))), g, u) := by
  refine q_bx (mm := m_75) rfl (Nat.le_of_ble_eq_true rfl) rfl ?_
  refine q_step 1 1 [(0, .ref 8), (1, .int (Int32.ofNat m))] [.int (Int32.ofNat m)] g u (fun big n0 => sg_gf_1 big n0 g u (Int32.ofNat m)) ?_
  refine q_if_lt rfl (fun hc0 => absurd (show (Int32.ofNat m) < 0 from hc0) (fun z => by rw [show (0 : Int32) = Int32.ofNat 0 from rfl, q_lt (by omega) (by omega)] at z; omega)) (fun (hc0 : ¬ ((Int32.ofNat m) < 0)) => ?_)
  refine q_step 2 7 [(0, .ref 8), (1, .int (Int32.ofNat m))] [.int (60 : Int32), .int (Int32.ofNat m)] g u (fun big n0 => sg_gf_2 big n0 g u (Int32.ofNat m)) ?_
  refine q_ic_le rfl (fun (hc1 : (Int32.ofNat m) ≤ (60 : Int32)) => ?_) (fun hc1 => absurd (show (Int32.ofNat m) ≤ (60 : Int32) from (q_le (j := 60) (by omega) (by omega)).mpr hm) hc1)
  refine q_step 6 24 [(0, .ref 8), (1, .int (Int32.ofNat m))] [.int (1000 : Int32), .int ((g 20 5) + (Int32.ofNat m))] g u (fun big n0 => sg_gf_3 big n0 g u (Int32.ofNat m)) ?_
  refine q_ic_lt rfl (fun hc2 => absurd (show ((g 20 5) + (Int32.ofNat m)) < (1000 : Int32) from hc2) (fun z => absurd (show (1000 : Int32) ≤ g 20 5 + Int32.ofNat m from hs) (Int32.not_le.mpr z))) (fun (hc2 : ¬ (((g 20 5) + (Int32.ofNat m)) < (1000 : Int32))) => ?_)
  refine q_ret 2 (some (.int (Int8.toInt32 (Int8.ofInt (-3)))), g, u) (fun _ _ => rfl) ?_
  rfl
theorem r_gof {m : Nat} (g : qM) (u : qW) (hm : m ≤ 60) (hq : 999 < g 71 26 + Int32.ofNat m) : q_BS 196 [.ref 70, .int (Int32.ofNat m)] g u (some (.int (Int8.toInt32 (Int8.ofInt (-3)))), g, u) := by
  refine q_bx (mm := m_196) rfl (Nat.le_of_ble_eq_true rfl) rfl ?_
  refine q_step 4 6 [(0, .ref 70), (1, .int (Int32.ofNat m))] [.long (60 : Int64), .long (0 : Int64), .long (Int32.toInt64 (Int32.ofNat m))] g u (fun big n0 => sg_gf_4 big n0 g u (Int32.ofNat m)) ?_
  refine q_call (M2 := 149) (rest := []) (b_in _ _ _ _ _) (fun _ _ => rfl) ?_
  refine q_if_ne rfl (fun hc0 => absurd (show (s_in (Int32.toInt64 (Int32.ofNat m)) (0 : Int64) (60 : Int64)) = 0 from hc0) (s_in_i.mpr (by rw [show (0 : Int64).toInt = 0 from rfl, show (60 : Int64).toInt = 60 from rfl, q_nat (by omega)]; omega))) (fun (hc0 : ¬ ((s_in (Int32.toInt64 (Int32.ofNat m)) (0 : Int64) (60 : Int64)) = 0)) => ?_)
  refine q_step 7 26 [(0, .ref 70), (1, .int (Int32.ofNat m))] [.int (999 : Int32), .int ((g 71 26) + (Int32.ofNat m))] g u (fun big n0 => sg_gf_5 big n0 g u (Int32.ofNat m)) ?_
  refine q_ic_le rfl (fun hc1 => absurd (show ((g 71 26) + (Int32.ofNat m)) ≤ (999 : Int32) from hc1) (fun z => absurd hq (Int32.not_lt.mpr z))) (fun (hc1 : ¬ (((g 71 26) + (Int32.ofNat m)) ≤ (999 : Int32))) => ?_)
  refine q_ret 2 (some (.int (Int8.toInt32 (Int8.ofInt (-3)))), g, u) (fun _ _ => rfl) ?_
  rfl
theorem pr_go (x : Int32) (g : qM) (u : qW) (h : w_R g) : w_2 75 196 [.int x] g u := by
  obtain ⟨n, W, H, z, h⟩ := h
  have h5 := h.n5
  have h25 := h.wh
  have ok := h.ok
  have cs := h.cs
  have hgo := h.hgo
  obtain ⟨hn, hW, hH⟩ := h.1
  have hn2 : g 20 3 = Int32.ofNat n := h.2.1.1.2.2.2.1
  have hW2 : g 20 0 = Int32.ofNat W := h.2.1.1.1
  have hH2 : g 20 1 = Int32.ofNat H := h.2.1.1.2.1
  by_cases hb : v_rg 0 60 x
  · obtain ⟨m, m0, m1, rfl⟩ := hb
    obtain ⟨t, ht, et⟩ := h.2.1.2.2.1
    by_cases htm : t + m ≤ 999
    · exact pr_go1 g u h m1 et htm
    · have e5 : g 20 5 = Int32.ofNat t := h.2.1.1.2.2.2.2.2.1.trans et
      exact w_2n h (c_gof g u m1 (by rw [e5, q_add]; exact (q_le (i := 1000) (by omega) (by omega)).mpr (by omega))) (r_gof g u m1 (by rw [et, q_add]; exact (q_lt (i := 999) (by omega) (by omega)).mpr (by omega)))
  · exact w_2n h (cb_go g u hn2 hW2 hH2 (by omega) h25 x hb) (rb_go g u hn hW hH (by omega) h25 x hb)
end
