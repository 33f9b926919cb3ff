/-! BOTH SIDES of the calls that change the town. -/
theorem w_bit01 (t x : Int32) : s_bit t x = 0 ∨ s_bit t x = 1 := by
  unfold s_bit
  have z : ∀ v : BitVec 32, v &&& 1#32 = 0#32 ∨ v &&& 1#32 = 1#32 := fun v => by
    rcases Bool.eq_false_or_eq_true (v.getLsbD 0) with e | e
    · right
      apply BitVec.eq_of_getLsbD_eq
      intro i hi
      simp only [BitVec.getLsbD_and, BitVec.getLsbD_one]
      by_cases c : i = 0
      · subst c; simpa using e
      · simp [c]
    · left
      apply BitVec.eq_of_getLsbD_eq
      intro i hi
      simp only [BitVec.getLsbD_and, BitVec.getLsbD_one]
      by_cases c : i = 0
      · subst c; simpa using e
      · simp [c]
  rcases z ((t >>> (x &&& 31)).toBitVec) with e | e
  · exact Or.inl (Int32.toBitVec_inj.mp (by rw [Int32.toBitVec_and]; exact e))
  · exact Or.inr (Int32.toBitVec_inj.mp (by rw [Int32.toBitVec_and]; exact e))
theorem s_bit_and0 {t : Int32} {K N : Nat} (hK : K < 25) (hN : N < 25) (h : s_bit t (Int32.ofNat N) = 0) : s_bit (t &&& (((1 : Int32) <<< (Int32.ofNat K &&& 31)) ^^^ Int32.ofInt (-1))) (Int32.ofNat N) = 0 := by
  rw [s_bit_l hN] at h ⊢
  rw [Int32.toBitVec_and, BitVec.getLsbD_and, h]
  rfl
theorem w_sms2 {n : Nat} {g g1 : qM} (h5 : n ≤ 5) (e70 : g1 70 = g 70) (e71 : g1 71 = g 71) : w_sm n (s_start g1) (s_start g) := by
  refine ⟨⟨?_, ?_, ?_, ?_, ?_⟩, fun d _ _ => ?_, fun p hp => ⟨?_, ?_, ?_⟩⟩
  · show g1 70 4 = g 70 4; rw [e70]
  · show g1 70 2 = g 70 2; rw [e70]
  · show g1 70 3 = g 70 3; rw [e70]
  · show g1 71 20 = g 71 20; rw [e71]
  · show g1 71 25 = g 71 25; rw [e71]
  · show g1 71 (20 + d) = g 71 (20 + d); rw [e71]
  · show (if p < 5 then g1 71 p else g1 75 p) = (if p < 5 then g 71 p else g 75 p); rw [if_pos (by omega), if_pos (by omega), e71]
  · show (if p < 5 then g1 71 (5 + p) else g1 76 p) = (if p < 5 then g 71 (5 + p) else g 76 p); rw [if_pos (by omega), if_pos (by omega), e71]
  · show (if p < 5 then g1 71 (10 + p) else g1 77 p) = (if p < 5 then g 71 (10 + p) else g 77 p); rw [if_pos (by omega), if_pos (by omega), e71]
theorem s_start_o {g : qM} {a : Nat} (h : a ≠ 70 ∧ a ≠ 75 ∧ a ≠ 76 ∧ a ≠ 77 ∧ a ≠ 78) : s_start g a = g a := by
  funext j
  show (if a = 70 then _ else if a = 75 then _ else if a = 76 then _ else if a = 77 then _ else if a = 78 then _ else g a j) = _
  rw [if_neg h.1, if_neg h.2.1, if_neg h.2.2.1, if_neg h.2.2.2.1, if_neg h.2.2.2.2]
theorem w_TT.of {n W H z : Nat} {g : qM} {f c m s go pu so sw st : Nat → Int32} (h : TT n W H z f c m s go pu so sw st) (e0 : g 20 = f) (e1 : g 21 = c) (e2 : g 22 = m) (e3 : g 23 = s) (e4 : g 24 = go) (e5 : g 25 = pu) (e6 : g 26 = so) (e7 : g 27 = sw) (e8 : g 71 = st) : w_TT n W H z g := by
  unfold w_TT
  rw [e0, e1, e2, e3, e4, e5, e6, e7, e8]
  exact h
theorem pr_mood (x y : Int32) (g : qM) (u : qW) (h : w_R g) : w_2 47 174 [.int x, .int y] g u := by
  obtain ⟨n, W, H, z, h⟩ := h
  have h5 := h.n5
  have h25 := h.wh
  have ok := h.ok
  have cs := h.cs
  have hgo := h.hgo
  obtain ⟨hn, hW, hH⟩ := h.1
  have hn2 : g 20 3 = Int32.ofNat n := h.2.1.1.2.2.2.1
  have hW2 : g 20 0 = Int32.ofNat W := h.2.1.1.1
  have hH2 : g 20 1 = Int32.ofNat H := h.2.1.1.2.1
  by_cases hb : v_one n x ∧ v_rg 0 3 y
  · obtain ⟨⟨p, hp, rfl⟩, m, m0, m1, rfl⟩ := hb
    have hv : Int32.ofNat m = 0 ∨ Int32.ofNat m = 1 ∨ Int32.ofNat m = 2 ∨ Int32.ofNat m = 3 := by
      rcases (show m = 0 ∨ m = 1 ∨ m = 2 ∨ m = 3 by omega) with e | e | e | e
      · exact Or.inl (by rw [e]; rfl)
      · exact Or.inr (Or.inl (by rw [e]; rfl))
      · exact Or.inr (Or.inr (Or.inl (by rw [e]; rfl)))
      · exact Or.inr (Or.inr (Or.inr (by rw [e]; rfl)))
    have q := rg_mood (q_up g 22 p (Int32.ofNat m)) u hn h5 hp m1
    rw [show q_up g 22 p (Int32.ofNat m) 71 (5 + p) = g 22 p from (h.2.1.2.2.2.2.1 p hp).2.1.symm] at q
    exact ⟨_, _, _, _, _, cg_mood g u hn2 (by omega) hp m1, q, n, W, H, z, h.town (((w_fo_rfl g).up (by omega)).up (by omega)) (w_TT.of (h.2.1.mood hp hv) (by rw [q_up_ne (by decide), q_up_ne (by decide)]) (by rw [q_up_ne (by decide), q_up_ne (by decide)]) (by rw [q_up_ne (by decide), q_up_s]) (by rw [q_up_ne (by decide), q_up_ne (by decide)]) (by rw [q_up_ne (by decide), q_up_ne (by decide)]) (by rw [q_up_ne (by decide), q_up_ne (by decide)]) (by rw [q_up_ne (by decide), q_up_ne (by decide)]) (by rw [q_up_ne (by decide), q_up_ne (by decide)]) (by rw [q_up_s, q_up_ne (by decide)]))⟩
  · exact w_2n h (cb_mood g u hn2 hW2 hH2 (by omega) h25 x y hb) (rb_mood g u hn hW hH (by omega) h25 x y hb)
theorem pr_hold0 (x : Int32) (g : qM) (u : qW) (h : w_R g) : w_2 51 178 [.int x, .int (0 : Int32)] g u := by
  obtain ⟨n, W, H, z, h⟩ := h
  have h5 := h.n5
  have h25 := h.wh
  have ok := h.ok
  have cs := h.cs
  have hgo := h.hgo
  obtain ⟨hn, hW, hH⟩ := h.1
  have hn2 : g 20 3 = Int32.ofNat n := h.2.1.1.2.2.2.1
  have hW2 : g 20 0 = Int32.ofNat W := h.2.1.1.1
  have hH2 : g 20 1 = Int32.ofNat H := h.2.1.1.2.1
  by_cases hb : v_one n x
  · obtain ⟨p, hp, rfl⟩ := hb
    have q := rg_hold0 (q_up g 23 p 0) u hn h5 hp
    rw [show q_up g 23 p 0 71 (10 + p) = g 23 p from (h.2.1.2.2.2.2.1 p hp).2.2.1.symm] at q
    exact ⟨_, _, _, _, _, cg_hold0 g u hn2 (by omega) hp, q, n, W, H, z, h.town (((w_fo_rfl g).up (by omega)).up (by omega)) (w_TT.of (h.2.1.hold hp (Or.inl rfl)) (by rw [q_up_ne (by decide), q_up_ne (by decide)]) (by rw [q_up_ne (by decide), q_up_ne (by decide)]) (by rw [q_up_ne (by decide), q_up_ne (by decide)]) (by rw [q_up_ne (by decide), q_up_s]) (by rw [q_up_ne (by decide), q_up_ne (by decide)]) (by rw [q_up_ne (by decide), q_up_ne (by decide)]) (by rw [q_up_ne (by decide), q_up_ne (by decide)]) (by rw [q_up_ne (by decide), q_up_ne (by decide)]) (by rw [q_up_s, q_up_ne (by decide)]))⟩
  · exact w_2n h (cb_hold g u hn2 hW2 hH2 (by omega) h25 x (0 : Int32) hb) (rb_hold g u hn hW hH (by omega) h25 x (0 : Int32) hb)
theorem pr_hold1 (x : Int32) (g : qM) (u : qW) (h : w_R g) : w_2 51 178 [.int x, .int (1 : Int32)] g u := by
  obtain ⟨n, W, H, z, h⟩ := h
  have h5 := h.n5
  have h25 := h.wh
  have ok := h.ok
  have cs := h.cs
  have hgo := h.hgo
  obtain ⟨hn, hW, hH⟩ := h.1
  have hn2 : g 20 3 = Int32.ofNat n := h.2.1.1.2.2.2.1
  have hW2 : g 20 0 = Int32.ofNat W := h.2.1.1.1
  have hH2 : g 20 1 = Int32.ofNat H := h.2.1.1.2.1
  by_cases hb : v_one n x
  · obtain ⟨p, hp, rfl⟩ := hb
    have q := rg_hold1 (q_up g 23 p 1) u hn h5 hp
    rw [show q_up g 23 p 1 71 (10 + p) = g 23 p from (h.2.1.2.2.2.2.1 p hp).2.2.1.symm] at q
    exact ⟨_, _, _, _, _, cg_hold1 g u hn2 (by omega) hp, q, n, W, H, z, h.town (((w_fo_rfl g).up (by omega)).up (by omega)) (w_TT.of (h.2.1.hold hp (Or.inr rfl)) (by rw [q_up_ne (by decide), q_up_ne (by decide)]) (by rw [q_up_ne (by decide), q_up_ne (by decide)]) (by rw [q_up_ne (by decide), q_up_ne (by decide)]) (by rw [q_up_ne (by decide), q_up_s]) (by rw [q_up_ne (by decide), q_up_ne (by decide)]) (by rw [q_up_ne (by decide), q_up_ne (by decide)]) (by rw [q_up_ne (by decide), q_up_ne (by decide)]) (by rw [q_up_ne (by decide), q_up_ne (by decide)]) (by rw [q_up_s, q_up_ne (by decide)]))⟩
  · exact w_2n h (cb_hold g u hn2 hW2 hH2 (by omega) h25 x (1 : Int32) hb) (rb_hold g u hn hW hH (by omega) h25 x (1 : Int32) hb)
theorem pr_goal (x y : Int32) (g : qM) (u : qW) (h : w_R g) : w_2 52 179 [.int x, .int y] g u := by
  obtain ⟨n, W, H, z, h⟩ := h
  have h5 := h.n5
  have h25 := h.wh
  have ok := h.ok
  have cs := h.cs
  have hgo := h.hgo
  obtain ⟨hn, hW, hH⟩ := h.1
  have hn2 : g 20 3 = Int32.ofNat n := h.2.1.1.2.2.2.1
  have hW2 : g 20 0 = Int32.ofNat W := h.2.1.1.1
  have hH2 : g 20 1 = Int32.ofNat H := h.2.1.1.2.1
  by_cases hb : v_one n x ∧ (y = i_none ∨ v_one (W * H) y)
  · obtain ⟨⟨p, hp, rfl⟩, hy⟩ := hb
    have hN2 : g 20 0 * g 20 1 = Int32.ofNat (W * H) := by rw [hW2, hH2, q_mul]
    have hN : g 70 2 * g 70 3 = Int32.ofNat (W * H) := by rw [hW, hH, q_mul]
    rcases hy with rfl | ⟨c, hc, rfl⟩
    · have q := rg_goaln (q_up g 24 p i_none) u hn h5 hp
      rw [show q_up g 24 p i_none 71 (15 + p) = g 24 p from (h.2.1.2.2.2.2.1 p hp).2.2.2.symm] at q
      exact ⟨_, _, _, _, _, cg_goaln g u hn2 (by omega) hp, q, n, W, H, z, h.town (((w_fo_rfl g).up (by omega)).up (by omega)) (w_TT.of (h.2.1.goal hp) (by rw [q_up_ne (by decide), q_up_ne (by decide)]) (by rw [q_up_ne (by decide), q_up_ne (by decide)]) (by rw [q_up_ne (by decide), q_up_ne (by decide)]) (by rw [q_up_ne (by decide), q_up_ne (by decide)]) (by rw [q_up_ne (by decide), q_up_s]) (by rw [q_up_ne (by decide), q_up_ne (by decide)]) (by rw [q_up_ne (by decide), q_up_ne (by decide)]) (by rw [q_up_ne (by decide), q_up_ne (by decide)]) (by rw [q_up_s, q_up_ne (by decide)]))⟩
    · have q := rg_goalc (q_up g 24 p (Int32.ofNat c)) u hn h5 hp hN h25 hc
      rw [show q_up g 24 p (Int32.ofNat c) 71 (15 + p) = g 24 p from (h.2.1.2.2.2.2.1 p hp).2.2.2.symm] at q
      exact ⟨_, _, _, _, _, cg_goalc g u hn2 (by omega) hp hN2 h25 hc, q, n, W, H, z, h.town (((w_fo_rfl g).up (by omega)).up (by omega)) (w_TT.of (h.2.1.goal hp) (by rw [q_up_ne (by decide), q_up_ne (by decide)]) (by rw [q_up_ne (by decide), q_up_ne (by decide)]) (by rw [q_up_ne (by decide), q_up_ne (by decide)]) (by rw [q_up_ne (by decide), q_up_ne (by decide)]) (by rw [q_up_ne (by decide), q_up_s]) (by rw [q_up_ne (by decide), q_up_ne (by decide)]) (by rw [q_up_ne (by decide), q_up_ne (by decide)]) (by rw [q_up_ne (by decide), q_up_ne (by decide)]) (by rw [q_up_s, q_up_ne (by decide)]))⟩
  · exact w_2n h (cb_goal g u hn2 hW2 hH2 (by omega) h25 x y hb) (rb_goal g u hn hW hH (by omega) h25 x y hb)
theorem pr_press (x : Int32) (g : qM) (u : qW) (h : w_R g) : w_2 55 182 [.int x] g u := by
  obtain ⟨n, W, H, z, h⟩ := h
  have h5 := h.n5
  have h25 := h.wh
  have ok := h.ok
  have cs := h.cs
  have hgo := h.hgo
  obtain ⟨hn, hW, hH⟩ := h.1
  have hn2 : g 20 3 = Int32.ofNat n := h.2.1.1.2.2.2.1
  have hW2 : g 20 0 = Int32.ofNat W := h.2.1.1.1
  have hH2 : g 20 1 = Int32.ofNat H := h.2.1.1.2.1
  by_cases hb : v_rg 0 4 x
  · obtain ⟨m, m0, m1, rfl⟩ := hb
    have q := rg_press (q_up g 20 4 (Int32.ofNat m)) u m1
    rw [show q_up g 20 4 (Int32.ofNat m) 71 25 = g 20 4 from h.2.1.1.2.2.2.2.1.symm] at q
    exact ⟨_, _, _, _, _, cg_press g u m1, q, n, W, H, z, h.town (((w_fo_rfl g).up (by omega)).up (by omega)) (w_TT.of (h.2.1.press) (by rw [q_up_ne (by decide), q_up_s]) (by rw [q_up_ne (by decide), q_up_ne (by decide)]) (by rw [q_up_ne (by decide), q_up_ne (by decide)]) (by rw [q_up_ne (by decide), q_up_ne (by decide)]) (by rw [q_up_ne (by decide), q_up_ne (by decide)]) (by rw [q_up_ne (by decide), q_up_ne (by decide)]) (by rw [q_up_ne (by decide), q_up_ne (by decide)]) (by rw [q_up_ne (by decide), q_up_ne (by decide)]) (by rw [q_up_s, q_up_ne (by decide)]))⟩
  · exact w_2n h (cb_press g u hn2 hW2 hH2 (by omega) h25 x hb) (rb_press g u hn hW hH (by omega) h25 x hb)
theorem pr_pull (x y : Int32) (g : qM) (u : qW) (h : w_R g) : w_2 54 181 [.int x, .int y] g u := by
  obtain ⟨n, W, H, z, h⟩ := h
  have h5 := h.n5
  have h25 := h.wh
  have ok := h.ok
  have cs := h.cs
  have hgo := h.hgo
  obtain ⟨hn, hW, hH⟩ := h.1
  have hn2 : g 20 3 = Int32.ofNat n := h.2.1.1.2.2.2.1
  have hW2 : g 20 0 = Int32.ofNat W := h.2.1.1.1
  have hH2 : g 20 1 = Int32.ofNat H := h.2.1.1.2.1
  by_cases hb : v_rg 1 4 x ∧ v_rg 0 9 y
  · obtain ⟨⟨d, d0, d1, rfl⟩, m, m0, m1, rfl⟩ := hb
    have q := rg_pull (q_up g 25 d (Int32.ofNat m)) u ⟨d0, d1⟩ m1
    rw [show q_up g 25 d (Int32.ofNat m) 71 (20 + d) = g 25 d from (h.2.1.2.2.2.1 d d0 d1).symm] at q
    exact ⟨_, _, _, _, _, cg_pull g u ⟨d0, d1⟩ m1, q, n, W, H, z, h.town (((w_fo_rfl g).up (by omega)).up (by omega)) (w_TT.of (h.2.1.pull ⟨d0, d1⟩) (by rw [q_up_ne (by decide), q_up_ne (by decide)]) (by rw [q_up_ne (by decide), q_up_ne (by decide)]) (by rw [q_up_ne (by decide), q_up_ne (by decide)]) (by rw [q_up_ne (by decide), q_up_ne (by decide)]) (by rw [q_up_ne (by decide), q_up_ne (by decide)]) (by rw [q_up_ne (by decide), q_up_s]) (by rw [q_up_ne (by decide), q_up_ne (by decide)]) (by rw [q_up_ne (by decide), q_up_ne (by decide)]) (by rw [q_up_s, q_up_ne (by decide)]))⟩
  · exact w_2n h (cb_pull g u hn2 hW2 hH2 (by omega) h25 x y hb) (rb_pull g u hn hW hH (by omega) h25 x y hb)
theorem pr_put (x y : Int32) (g : qM) (u : qW) (h : w_R g) : w_2 49 176 [.int x, .int y] g u := by
  obtain ⟨n, W, H, z, h⟩ := h
  have h5 := h.n5
  have h25 := h.wh
  have ok := h.ok
  have cs := h.cs
  have hgo := h.hgo
  obtain ⟨hn, hW, hH⟩ := h.1
  have hn2 : g 20 3 = Int32.ofNat n := h.2.1.1.2.2.2.1
  have hW2 : g 20 0 = Int32.ofNat W := h.2.1.1.1
  have hH2 : g 20 1 = Int32.ofNat H := h.2.1.1.2.1
  by_cases hb : v_one n x ∧ v_one (W * H) y
  · obtain ⟨⟨p, hp, rfl⟩, c, hc, rfl⟩ := hb
    have hN2 : g 20 0 * g 20 1 = Int32.ofNat (W * H) := by rw [hW2, hH2, q_mul]
    have hN : g 70 2 * g 70 3 = Int32.ofNat (W * H) := by rw [hW, hH, q_mul]
    rcases p_can_01 n (s_start g) p c with hcan | hcan
    · exact ⟨_, _, _, _, _, cg_put0 u ok cs hn2 (by omega) hN2 h25 hc hp hcan, rg_put0 u ok (w_sms0 h5).1 hn h5 hN h25 hc hp hc hcan, n, W, H, z, h.fr s_start_fr⟩
    · have e75 : ∀ q, q < n → s_start g 75 q = g 71 q := fun q hq => by
        show (if q < 5 then g 71 q else g 75 q) = _
        rw [if_pos (by omega)]
      have hok2 := w_ok_put ok hp hc (by rw [hcan]; decide)
      have hwa : s_bit (g 71 20) (Int32.ofNat c) = 0 := by
        have y := hok2.2.2.2.2.2.2.1 p hp
        rw [q_up_ne (by decide), q_up_at, if_pos rfl] at y
        exact y
      have hdi : ∀ q, q < n → q ≠ p → g 71 q ≠ Int32.ofNat c := fun q hq hqp => by
        have y := hok2.2.2.2.2.2.1 q p hq hp hqp
        rw [q_up_at, if_neg hqp, q_up_at, if_pos rfl, e75 q hq] at y
        exact y
      have hsm : w_sm n (s_start (q_up g 21 p (Int32.ofNat c))) (s_start g) := w_sms2 h5 (q_up_ne (by decide)) (q_up_ne (by decide))
      have q := rg_put1 u ok hsm hn h5 hN h25 hc hp hc hcan
      rw [show q_up g 21 p (Int32.ofNat c) 71 p = g 21 p from (h.2.1.2.2.2.2.1 p hp).1.symm] at q
      exact ⟨_, _, _, _, _, cg_put1 u ok cs hn2 (by omega) hN2 h25 hc hp hcan, q, n, W, H, z, h.town ((((w_fo_rfl g).up (by omega)).trans s_start_fr.fo).up (by omega)) (w_TT.of (h.2.1.put hp hc hwa hdi) (by rw [q_up_ne (by decide), s_start_o (by decide), q_up_ne (by decide)]) (by rw [q_up_ne (by decide), s_start_o (by decide), q_up_s]) (by rw [q_up_ne (by decide), s_start_o (by decide), q_up_ne (by decide)]) (by rw [q_up_ne (by decide), s_start_o (by decide), q_up_ne (by decide)]) (by rw [q_up_ne (by decide), s_start_o (by decide), q_up_ne (by decide)]) (by rw [q_up_ne (by decide), s_start_o (by decide), q_up_ne (by decide)]) (by rw [q_up_ne (by decide), s_start_o (by decide), q_up_ne (by decide)]) (by rw [q_up_ne (by decide), s_start_o (by decide), q_up_ne (by decide)]) (by rw [q_up_s, s_start_o (by decide), q_up_ne (by decide)]))⟩
  · exact w_2n h (cb_put g u hn2 hW2 hH2 (by omega) h25 x y hb) (rb_put g u hn hW hH (by omega) h25 x y hb)
theorem pr_wall0 (x : Int32) (g : qM) (u : qW) (h : w_R g) : w_2 53 180 [.int x, .int (0 : Int32)] g u := by
  obtain ⟨n, W, H, z, h⟩ := h
  have h5 := h.n5
  have h25 := h.wh
  have ok := h.ok
  have cs := h.cs
  have hgo := h.hgo
  obtain ⟨hn, hW, hH⟩ := h.1
  have hn2 : g 20 3 = Int32.ofNat n := h.2.1.1.2.2.2.1
  have hW2 : g 20 0 = Int32.ofNat W := h.2.1.1.1
  have hH2 : g 20 1 = Int32.ofNat H := h.2.1.1.2.1
  by_cases hb : v_one (W * H) x
  · obtain ⟨c, hc, rfl⟩ := hb
    have hN2 : g 20 0 * g 20 1 = Int32.ofNat (W * H) := by rw [hW2, hH2, q_mul]
    have hN : g 70 2 * g 70 3 = Int32.ofNat (W * H) := by rw [hW, hH, q_mul]
    have ew : s_w1 (g 21) (Int32.ofNat c) n 0 = f_who n (s_start g) (Int32.ofNat c) := w_who_c cs _
    have e20 : g 20 2 = g 71 20 := h.2.1.1.2.2.1
    by_cases hw : f_who n (s_start g) (Int32.ofNat c) = i_none
    · have e75 : ∀ q, q < n → s_start g 75 q = g 71 q := fun q hq => by
        show (if q < 5 then g 71 q else g 75 q) = _
        rw [if_pos (by omega)]
      have hno := w_who_none ok hw
      have hv : ∀ p, p < n → s_bit ((g 71 20) &&& (((1 : Int32) <<< ((Int32.ofNat c) &&& 31)) ^^^ (Int32.ofInt (-1)))) (g 71 p) = 0 := fun p hp => by
        obtain ⟨C, hC, eC⟩ := h.2.1.2.2.2.2.2.2.1 p hp
        have y := h.2.1.2.2.2.2.2.2.2.2.1 p hp
        have y2 := hno p hp
        rw [e75 p hp] at y2
        rw [eC] at y y2 ⊢
        exact s_bit_and0 (by omega) (by omega) y
      have hsm : w_sm n (s_start (q_up g 20 2 ((g 20 2) &&& (((1 : Int32) <<< ((Int32.ofNat c) &&& 31)) ^^^ (Int32.ofInt (-1)))))) (s_start g) := w_sms2 h5 (q_up_ne (by decide)) (q_up_ne (by decide))
      have q1 := cg_wall01 g u hn2 (by omega) hN2 h25 hc (ew.trans hw)
      have q2 := rg_wall01 (g := q_up g 20 2 ((g 20 2) &&& (((1 : Int32) <<< ((Int32.ofNat c) &&& 31)) ^^^ (Int32.ofInt (-1))))) u ok hsm hn h5 hN h25 hc hw
      rw [e20] at q1 q2
      have ea : (if d_hasWall (Int32.ofNat c) g = 0 then (0 : Int32) else 1) = s_bit (q_up g 20 2 ((g 71 20) &&& (((1 : Int32) <<< ((Int32.ofNat c) &&& 31)) ^^^ (Int32.ofInt (-1)))) 71 20) (Int32.ofNat c) := by
        show (if d_hasWall (Int32.ofNat c) g = 0 then (0 : Int32) else 1) = s_bit (g 71 20) (Int32.ofNat c)
        unfold d_hasWall
        rw [e20]
        rcases w_bit01 (g 71 20) (Int32.ofNat c) with y | y
        · rw [show ((g 71 20 >>> (Int32.ofNat c &&& 31)) &&& 1) = 0 from y, y]
          decide
        · rw [show ((g 71 20 >>> (Int32.ofNat c &&& 31)) &&& 1) = 1 from y, y]
          decide
      rw [← ea] at q2
      exact ⟨_, _, _, _, _, q1, q2, n, W, H, z, h.town ((((w_fo_rfl g).up (by omega)).trans s_start_fr.fo).up (by omega)) (w_TT.of (h.2.1.wall hv) (by rw [q_up_ne (by decide), s_start_o (by decide), q_up_s]) (by rw [q_up_ne (by decide), s_start_o (by decide), q_up_ne (by decide)]) (by rw [q_up_ne (by decide), s_start_o (by decide), q_up_ne (by decide)]) (by rw [q_up_ne (by decide), s_start_o (by decide), q_up_ne (by decide)]) (by rw [q_up_ne (by decide), s_start_o (by decide), q_up_ne (by decide)]) (by rw [q_up_ne (by decide), s_start_o (by decide), q_up_ne (by decide)]) (by rw [q_up_ne (by decide), s_start_o (by decide), q_up_ne (by decide)]) (by rw [q_up_ne (by decide), s_start_o (by decide), q_up_ne (by decide)]) (by rw [q_up_s, s_start_o (by decide), q_up_ne (by decide)]))⟩
    · exact ⟨_, _, _, _, _, cg_wall00 g u hn2 (by omega) hN2 h25 hc (fun y => hw (ew.symm.trans y)), rg_wall00 u ok (w_sms0 h5).1 hn h5 hN h25 hc hw, n, W, H, z, h.fr s_start_fr⟩
  · exact w_2n h (cb_wall g u hn2 hW2 hH2 (by omega) h25 x (0 : Int32) hb) (rb_wall g u hn hW hH (by omega) h25 x (0 : Int32) hb)
theorem pr_wall1 (x : Int32) (g : qM) (u : qW) (h : w_R g) : w_2 53 180 [.int x, .int (1 : Int32)] g u := by
  obtain ⟨n, W, H, z, h⟩ := h
  have h5 := h.n5
  have h25 := h.wh
  have ok := h.ok
  have cs := h.cs
  have hgo := h.hgo
  obtain ⟨hn, hW, hH⟩ := h.1
  have hn2 : g 20 3 = Int32.ofNat n := h.2.1.1.2.2.2.1
  have hW2 : g 20 0 = Int32.ofNat W := h.2.1.1.1
  have hH2 : g 20 1 = Int32.ofNat H := h.2.1.1.2.1
  by_cases hb : v_one (W * H) x
  · obtain ⟨c, hc, rfl⟩ := hb
    have hN2 : g 20 0 * g 20 1 = Int32.ofNat (W * H) := by rw [hW2, hH2, q_mul]
    have hN : g 70 2 * g 70 3 = Int32.ofNat (W * H) := by rw [hW, hH, q_mul]
    have ew : s_w1 (g 21) (Int32.ofNat c) n 0 = f_who n (s_start g) (Int32.ofNat c) := w_who_c cs _
    have e20 : g 20 2 = g 71 20 := h.2.1.1.2.2.1
    by_cases hw : f_who n (s_start g) (Int32.ofNat c) = i_none
    · have e75 : ∀ q, q < n → s_start g 75 q = g 71 q := fun q hq => by
        show (if q < 5 then g 71 q else g 75 q) = _
        rw [if_pos (by omega)]
      have hno := w_who_none ok hw
      have hv : ∀ p, p < n → s_bit ((g 71 20) ||| ((1 : Int32) <<< ((Int32.ofNat c) &&& 31))) (g 71 p) = 0 := fun p hp => by
        obtain ⟨C, hC, eC⟩ := h.2.1.2.2.2.2.2.2.1 p hp
        have y := h.2.1.2.2.2.2.2.2.2.2.1 p hp
        have y2 := hno p hp
        rw [e75 p hp] at y2
        rw [eC] at y y2 ⊢
        exact (s_bit_or (by omega) (by omega)).mpr ⟨y, fun e => y2 (by rw [e])⟩
      have hsm : w_sm n (s_start (q_up g 20 2 ((g 20 2) ||| ((1 : Int32) <<< ((Int32.ofNat c) &&& 31))))) (s_start g) := w_sms2 h5 (q_up_ne (by decide)) (q_up_ne (by decide))
      have q1 := cg_wall11 g u hn2 (by omega) hN2 h25 hc (ew.trans hw)
      have q2 := rg_wall11 (g := q_up g 20 2 ((g 20 2) ||| ((1 : Int32) <<< ((Int32.ofNat c) &&& 31)))) u ok hsm hn h5 hN h25 hc hw
      rw [e20] at q1 q2
      have ea : (if d_hasWall (Int32.ofNat c) g = 0 then (0 : Int32) else 1) = s_bit (q_up g 20 2 ((g 71 20) ||| ((1 : Int32) <<< ((Int32.ofNat c) &&& 31))) 71 20) (Int32.ofNat c) := by
        show (if d_hasWall (Int32.ofNat c) g = 0 then (0 : Int32) else 1) = s_bit (g 71 20) (Int32.ofNat c)
        unfold d_hasWall
        rw [e20]
        rcases w_bit01 (g 71 20) (Int32.ofNat c) with y | y
        · rw [show ((g 71 20 >>> (Int32.ofNat c &&& 31)) &&& 1) = 0 from y, y]
          decide
        · rw [show ((g 71 20 >>> (Int32.ofNat c &&& 31)) &&& 1) = 1 from y, y]
          decide
      rw [← ea] at q2
      exact ⟨_, _, _, _, _, q1, q2, n, W, H, z, h.town ((((w_fo_rfl g).up (by omega)).trans s_start_fr.fo).up (by omega)) (w_TT.of (h.2.1.wall hv) (by rw [q_up_ne (by decide), s_start_o (by decide), q_up_s]) (by rw [q_up_ne (by decide), s_start_o (by decide), q_up_ne (by decide)]) (by rw [q_up_ne (by decide), s_start_o (by decide), q_up_ne (by decide)]) (by rw [q_up_ne (by decide), s_start_o (by decide), q_up_ne (by decide)]) (by rw [q_up_ne (by decide), s_start_o (by decide), q_up_ne (by decide)]) (by rw [q_up_ne (by decide), s_start_o (by decide), q_up_ne (by decide)]) (by rw [q_up_ne (by decide), s_start_o (by decide), q_up_ne (by decide)]) (by rw [q_up_ne (by decide), s_start_o (by decide), q_up_ne (by decide)]) (by rw [q_up_s, s_start_o (by decide), q_up_ne (by decide)]))⟩
    · exact ⟨_, _, _, _, _, cg_wall10 g u hn2 (by omega) hN2 h25 hc (fun y => hw (ew.symm.trans y)), rg_wall10 u ok (w_sms0 h5).1 hn h5 hN h25 hc hw, n, W, H, z, h.fr s_start_fr⟩
  · exact w_2n h (cb_wall g u hn2 hW2 hH2 (by omega) h25 x (1 : Int32) hb) (rb_wall g u hn hW hH (by omega) h25 x (1 : Int32) hb)
theorem pr_see (x y : Int32) (g : qM) (u : qW) (h : w_R g) : w_2 118 212 [.int x, .int y] g u := by
  obtain ⟨n, W, H, z, h⟩ := h
  have h5 := h.n5
  have h25 := h.wh
  have ok := h.ok
  have cs := h.cs
  have hgo := h.hgo
  obtain ⟨hn, hW, hH⟩ := h.1
  have hn2 : g 20 3 = Int32.ofNat n := h.2.1.1.2.2.2.1
  have hW2 : g 20 0 = Int32.ofNat W := h.2.1.1.1
  have hH2 : g 20 1 = Int32.ofNat H := h.2.1.1.2.1
  by_cases hb : v_one n x ∧ v_rg 0 4 y
  · obtain ⟨⟨p, hp, rfl⟩, m, m0, m1, rfl⟩ := hb
    have h6 : g 20 6 = Int32.ofNat z := h.2.1.1.2.2.2.2.2.2.1
    have h27 : g 71 27 = Int32.ofNat z := h.2.1.1.2.2.2.2.2.2.2
    have hz8 : z ≤ 8 := h.2.1.2.1.2.2.2.2.2
    by_cases hz : z < 8
    · have q1 := cg_see g u hn2 (by omega) hp m1 hz8 h6 hz
      have q2 := rg_see (q_up (q_up (q_up g 26 z (Int32.ofNat p)) 27 z (Int32.ofNat m)) 20 6 (Int32.ofNat (z + 1))) u hn h5 hp m1 hz8 h27 hz
      rw [show g 20 6 + 1 = Int32.ofNat (z + 1) from by rw [h6, q_succ]] at q1
      rw [show (q_up (q_up (q_up g 26 z (Int32.ofNat p)) 27 z (Int32.ofNat m)) 20 6 (Int32.ofNat (z + 1))) 71 27 + 1 = Int32.ofNat (z + 1) from by rw [show (q_up (q_up (q_up g 26 z (Int32.ofNat p)) 27 z (Int32.ofNat m)) 20 6 (Int32.ofNat (z + 1))) 71 27 = Int32.ofNat z from h27, q_succ]] at q2
      exact ⟨_, _, _, _, _, q1, q2, n, W, H, z + 1, h.town (((((((w_fo_rfl g).up (by omega)).up (by omega)).up (by omega)).up (by omega)).up (by omega)).up (by omega)) (w_TT.of (h.2.1.see hp hz) (by rw [q_up_ne (by decide), q_up_ne (by decide), q_up_ne (by decide), q_up_s, q_up_ne (by decide), q_up_ne (by decide)]) (by rw [q_up_ne (by decide), q_up_ne (by decide), q_up_ne (by decide), q_up_ne (by decide), q_up_ne (by decide), q_up_ne (by decide)]) (by rw [q_up_ne (by decide), q_up_ne (by decide), q_up_ne (by decide), q_up_ne (by decide), q_up_ne (by decide), q_up_ne (by decide)]) (by rw [q_up_ne (by decide), q_up_ne (by decide), q_up_ne (by decide), q_up_ne (by decide), q_up_ne (by decide), q_up_ne (by decide)]) (by rw [q_up_ne (by decide), q_up_ne (by decide), q_up_ne (by decide), q_up_ne (by decide), q_up_ne (by decide), q_up_ne (by decide)]) (by rw [q_up_ne (by decide), q_up_ne (by decide), q_up_ne (by decide), q_up_ne (by decide), q_up_ne (by decide), q_up_ne (by decide)]) (by rw [q_up_ne (by decide), q_up_ne (by decide), q_up_ne (by decide), q_up_ne (by decide), q_up_ne (by decide), q_up_s]) (by rw [q_up_ne (by decide), q_up_ne (by decide), q_up_ne (by decide), q_up_ne (by decide), q_up_s, q_up_ne (by decide)]) (by rw [q_up_s, q_up_s, q_up_s, q_up_ne (by decide), q_up_ne (by decide), q_up_ne (by decide)]))⟩
    · have hz : z = 8 := by omega
      subst hz
      exact w_2n h (cg_see8 g u hn2 (by omega) hp m1 h6) (rg_see8 g u hn h5 hp m1 h27)
  · exact w_2n h (cb_see g u hn2 hW2 hH2 (by omega) h25 x y hb) (rb_see g u hn hW hH (by omega) h25 x y hb)
theorem pr_forget (x : Int32) (g : qM) (u : qW) (h : w_R g) : w_2 119 213 [.int x] g u := by
  obtain ⟨n, W, H, z, h⟩ := h
  have h5 := h.n5
  have h25 := h.wh
  have ok := h.ok
  have cs := h.cs
  have hgo := h.hgo
  obtain ⟨hn, hW, hH⟩ := h.1
  have hn2 : g 20 3 = Int32.ofNat n := h.2.1.1.2.2.2.1
  have hW2 : g 20 0 = Int32.ofNat W := h.2.1.1.1
  have hH2 : g 20 1 = Int32.ofNat H := h.2.1.1.2.1
  have h6 : g 20 6 = Int32.ofNat z := h.2.1.1.2.2.2.2.2.2.1
  have h27 : g 71 27 = Int32.ofNat z := h.2.1.1.2.2.2.2.2.2.2
  have hz8 : z ≤ 8 := h.2.1.2.1.2.2.2.2.2
  have q1 := b_forget x g u
  by_cases hb : v_rg 0 z x
  · obtain ⟨m, m0, m1, rfl⟩ := hb
    have c1 : ¬ Int32.ofNat m < 0 := fun y => absurd ((q_lt (j := 0) (by omega) (by omega)).mp y) (by omega)
    have c2 : Int32.ofNat m ≤ g 20 6 := by rw [h6]; exact (q_le (by omega) (by omega)).mpr m1
    unfold d_forget at q1
    rw [if_neg c1, if_pos c2] at q1
    have q2 := b_rforget (Int32.ofNat m) (q_up g 20 6 (Int32.ofNat m)) u
    have c3 : ¬ s_in (Int32.toInt64 (Int32.ofNat m)) (0 : Int64) (Int32.toInt64 (q_up g 20 6 (Int32.ofNat m) 71 27)) = 0 := by
      rw [s_in_iff, show (0 : Int64).toInt = 0 from rfl, Int32.toInt_toInt64, Int32.toInt_toInt64, show q_up g 20 6 (Int32.ofNat m) 71 27 = Int32.ofNat z from h27, q_nat (by omega), q_nat (by omega)]
      omega
    unfold d_rforget at q2
    rw [if_neg c3, show q_up g 20 6 (Int32.ofNat m) 71 27 = g 20 6 from h27.trans h6.symm] at q2
    exact ⟨_, _, _, _, _, q1, q2, n, W, H, m, h.town (((w_fo_rfl g).up (by omega)).up (by omega)) (w_TT.of (h.2.1.forget m1) (by rw [q_up_ne (by decide), q_up_s]) (by rw [q_up_ne (by decide), q_up_ne (by decide)]) (by rw [q_up_ne (by decide), q_up_ne (by decide)]) (by rw [q_up_ne (by decide), q_up_ne (by decide)]) (by rw [q_up_ne (by decide), q_up_ne (by decide)]) (by rw [q_up_ne (by decide), q_up_ne (by decide)]) (by rw [q_up_ne (by decide), q_up_ne (by decide)]) (by rw [q_up_ne (by decide), q_up_ne (by decide)]) (by rw [q_up_s, q_up_ne (by decide)]))⟩
  · have e1 : d_forget x g u = (some (.int (Int32.ofInt (-1))), g, u) := by
      unfold d_forget
      by_cases c1 : x < 0
      · rw [if_pos c1]
      · rw [if_neg c1, if_neg (fun c2 => hb (by rw [h6] at c2; exact vr_c' (lo := 0) (by omega) (by omega) c1 c2))]
    have e2 : d_rforget x g u = (some (.int (Int32.ofInt (-1))), g, u) := by
      unfold d_rforget
      rw [if_pos]
      refine Classical.byContradiction (fun c3 => hb ?_)
      rw [s_in_iff, show (0 : Int64).toInt = 0 from rfl, Int32.toInt_toInt64, Int32.toInt_toInt64, h27, q_nat (by omega)] at c3
      exact v_nat c3.1 c3.2
    rw [e1] at q1
    have q2 := b_rforget x g u
    rw [e2] at q2
    exact w_2n h q1 q2
theorem pr_rule (x : Int32) (g : qM) (u : qW) (h : w_R g) : w_2 44 167 [.int x] g u := by
  obtain ⟨n, W, H, z, h⟩ := h
  have h5 := h.n5
  have h25 := h.wh
  have ok := h.ok
  have cs := h.cs
  have hgo := h.hgo
  obtain ⟨hn, hW, hH⟩ := h.1
  have hn2 : g 20 3 = Int32.ofNat n := h.2.1.1.2.2.2.1
  have hW2 : g 20 0 = Int32.ofNat W := h.2.1.1.1
  have hH2 : g 20 1 = Int32.ofNat H := h.2.1.1.2.1
  by_cases hx : x.toInt < 0 ∨ 5 < x.toInt
  · by_cases hb : v_rg 11 14 x
    · obtain ⟨m, m0, m1, rfl⟩ := hb
      rcases (show m = 11 ∨ m = 12 ∨ m = 13 ∨ m = 14 by omega) with e | e | e | e
      · subst e
        have q := rg_rule11 g u
        rw [← show g 25 1 = g 71 21 from h.2.1.2.2.2.1 1 (by omega) (by omega)] at q
        exact w_2n h (cg_rule11 g u) q
      · subst e
        have q := rg_rule12 g u
        rw [← show g 25 2 = g 71 22 from h.2.1.2.2.2.1 2 (by omega) (by omega)] at q
        exact w_2n h (cg_rule12 g u) q
      · subst e
        have q := rg_rule13 g u
        rw [← show g 25 3 = g 71 23 from h.2.1.2.2.2.1 3 (by omega) (by omega)] at q
        exact w_2n h (cg_rule13 g u) q
      · subst e
        have q := rg_rule14 g u
        rw [← show g 25 4 = g 71 24 from h.2.1.2.2.2.1 4 (by omega) (by omega)] at q
        exact w_2n h (cg_rule14 g u) q
    · exact w_2n h (cb_rule g u x hx hb) (rb_rule g u x hx hb)
  · obtain ⟨m, m0, m1, rfl⟩ : v_rg 0 5 x := v_nat (by omega) (by omega)
    rcases (show m = 0 ∨ m = 1 ∨ m = 2 ∨ m = 3 ∨ m = 4 ∨ m = 5 by omega) with e | e | e | e | e | e
    · subst e
      have q := rg_rule0 g u
      rw [← show g 20 0 = g 70 2 from hW2.trans hW.symm] at q
      exact w_2n h (cg_rule0 g u) q
    · subst e
      have q := rg_rule1 g u
      rw [← show g 20 1 = g 70 3 from hH2.trans hH.symm] at q
      exact w_2n h (cg_rule1 g u) q
    · subst e
      have q := rg_rule2 g u
      rw [← show g 20 2 = g 71 20 from h.2.1.1.2.2.1] at q
      exact w_2n h (cg_rule2 g u) q
    · subst e
      have q := rg_rule3 g u
      rw [← show g 20 3 = g 70 4 from hn2.trans hn.symm] at q
      exact w_2n h (cg_rule3 g u) q
    · subst e
      have q := rg_rule4 g u
      rw [← show g 20 4 = g 71 25 from h.2.1.1.2.2.2.2.1] at q
      exact w_2n h (cg_rule4 g u) q
    · subst e
      have q := rg_rule5 g u
      rw [← show g 20 5 = g 71 26 from h.2.1.1.2.2.2.2.2.1] at q
      exact w_2n h (cg_rule5 g u) q
theorem pr_one (x y : Int32) (g : qM) (u : qW) (h : w_R g) : w_2 45 168 [.int x, .int y] g u := by
  obtain ⟨n, W, H, z, h⟩ := h
  have h5 := h.n5
  have h25 := h.wh
  have ok := h.ok
  have cs := h.cs
  have hgo := h.hgo
  obtain ⟨hn, hW, hH⟩ := h.1
  have hn2 : g 20 3 = Int32.ofNat n := h.2.1.1.2.2.2.1
  have hW2 : g 20 0 = Int32.ofNat W := h.2.1.1.1
  have hH2 : g 20 1 = Int32.ofNat H := h.2.1.1.2.1
  by_cases hb : v_one n x ∧ v_rg 0 3 y
  · obtain ⟨⟨p, hp, rfl⟩, m, m0, m1, rfl⟩ := hb
    rcases (show m = 0 ∨ m = 1 ∨ m = 2 ∨ m = 3 by omega) with e | e | e | e
    · subst e
      have q := rg_one0 g u hn h5 hp
      rw [← show g 21 p = g 71 (0 + p) from (h.2.1.2.2.2.2.1 p hp).1.trans (by rw [Nat.zero_add])] at q
      exact w_2n h (cg_one0 g u hn2 (by omega) hp) q
    · subst e
      have q := rg_one1 g u hn h5 hp
      rw [← show g 22 p = g 71 (5 + p) from (h.2.1.2.2.2.2.1 p hp).2.1] at q
      exact w_2n h (cg_one1 g u hn2 (by omega) hp) q
    · subst e
      have q := rg_one2 g u hn h5 hp
      rw [← show g 23 p = g 71 (10 + p) from (h.2.1.2.2.2.2.1 p hp).2.2.1] at q
      exact w_2n h (cg_one2 g u hn2 (by omega) hp) q
    · subst e
      have q := rg_one3 g u hn h5 hp
      rw [← show g 24 p = g 71 (15 + p) from (h.2.1.2.2.2.2.1 p hp).2.2.2] at q
      exact w_2n h (cg_one3 g u hn2 (by omega) hp) q
  · by_cases hb1 : v_one n x
    · obtain ⟨p, hp, rfl⟩ := hb1
      have hy : y.toInt < 0 ∨ 3 < y.toInt := by
        rcases Int.lt_or_le y.toInt 0 with c | c
        · exact Or.inl c
        · rcases Int.lt_or_le 3 y.toInt with d | d
          · exact Or.inr d
          · exact absurd ⟨⟨p, hp, rfl⟩, v_nat c d⟩ hb
      exact w_2n h (cb_one2 g u hn2 (by omega) hp y hy) (rb_one g u hn (by omega) _ y hb)
    · exact w_2n h (cb_one g u hn2 (by omega) x y hb1) (rb_one g u hn (by omega) x y hb)
theorem pr_fault (g : qM) (u : qW) (h : w_R g) : w_2 43 166 [] g u := by
  obtain ⟨n, W, H, z, h⟩ := h
  have q := b_rfault g u
  rw [show d_rfault g = d_fault g from h.2.2.2.2.1.symm] at q
  exact w_2n h (b_fault g u) q
