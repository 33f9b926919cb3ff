/-! BOTH SIDES of the tape, and of the STEPS. -/
theorem s_step_b {n : Nat} {g : qM} {b j : Nat} (h1 : b < 28 ∨ 33 < b) (h2 : b ≠ 21 ∧ b ≠ 22) : s_flip 20 n (s_move 20 n (s_wg 20 n g)) b j = g b j := by
  show (if b = 20 + 2 then _ else if b = 28 then _ else s_move 20 n (s_wg 20 n g) b j) = _
  rw [if_neg (by omega), if_neg (by omega)]
  show (if b = 20 + 1 then _ else if b = 29 then _ else if b = 30 then _ else if b = 28 then _ else s_wg 20 n g b j) = _
  rw [if_neg (by omega), if_neg (by omega), if_neg (by omega), if_neg (by omega)]
  show (if b = 33 then _ else s_H (g 20 0) (g (20 + 1)) (g (20 + 2)) (g (20 + 5)) n g b j) = _
  rw [if_neg (by omega)]
  show (if b = 31 then _ else if b = 32 then _ else s_W1 (g 20 0) (g (20 + 1)) n g b j) = _
  rw [if_neg (by omega), if_neg (by omega)]
  show (if b = 29 then _ else if b = 30 then _ else if b = 31 then _ else if b = 32 then _ else g b j) = _
  rw [if_neg (by omega), if_neg (by omega), if_neg (by omega), if_neg (by omega)]
theorem s_step_6 {n : Nat} {g : qM} : s_step 20 n g 20 6 = g 20 6 := by
  unfold s_step
  rw [q_up_at, if_neg (by decide)]
  exact s_step_b (by omega) (by omega)
theorem s_tss_6 {n : Nat} : ∀ k g, s_tss 20 n k g 20 6 = g 20 6
  | 0, _ => rfl
  | k + 1, g => by
    unfold s_tss
    split
    · exact s_step_6
    · exact (s_tss_6 k _).trans s_step_6
theorem s_tss_g {n : Nat} {b : Nat} (h1 : b < 28 ∨ 33 < b) (h2 : b ≠ 20 ∧ b ≠ 21 ∧ b ≠ 22) : ∀ k g, s_tss 20 n k g b = g b
  | 0, _ => rfl
  | k + 1, g => by
    unfold s_tss
    split
    · exact s_step_g h1 h2
    · exact (s_tss_g h1 h2 k _).trans (s_step_g h1 h2)
theorem s_rst_b {n : Nat} {g : qM} {b q : Nat} (h : b = 76) (hq : n ≤ q) : s_rst n g b q = g b q := by
  show (if b = 76 then (if q < n then _ else s_r3 n g 76 q) else _) = _
  rw [if_pos h, if_neg (by omega), ← h]
  show (if b = 81 then _ else s_r2 n g b q) = _
  rw [if_neg (by omega)]
  show (if b = 75 then _ else if b = 80 then _ else s_r1 n g b q) = _
  rw [if_neg (by omega), if_neg (by omega)]
  show (if b = 79 then _ else g b q) = _
  rw [if_neg (by omega)]
theorem s_rst_76 {n : Nat} {g : qM} {q : Nat} (h : n ≤ q) : s_rst n g 76 q = g 76 q := s_rst_b rfl h
theorem s_rit_76 {n q : Nat} (h : n ≤ q) : ∀ k g, s_rit n k g 76 q = g 76 q
  | 0, _ => rfl
  | k + 1, g => (s_rit_76 h k (s_rst n g)).trans (s_rst_76 h)
theorem k_i8 {x : Int32} (h1 : 0 ≤ x.toInt) (h2 : x.toInt ≤ 127) : Int8.toInt32 (Int32.toInt8 (Int8.toInt32 (Int32.toInt8 x))) = x := by
  have z : (List.range 128).all (fun m => decide (Int8.toInt32 (Int32.toInt8 (Int8.toInt32 (Int32.toInt8 (Int32.ofNat m)))) = Int32.ofNat m)) = true := by decide +kernel
  have y := of_decide_eq_true (List.all_eq_true.mp z x.toInt.toNat (List.mem_range.mpr (by omega)))
  rw [← q_of h1] at y
  exact y
/-- what stands outside the tape is the same -/
theorem w_R4.tape {n W H z : Nat} {g g' : qM} (h : w_R4 n W H z g) (e : ∀ a, a ≠ 9 → a ≠ 10 → a ≠ 70 → a ≠ 74 → g' a = g a) (e70 : ∀ j, j ≠ 13 → g' 70 j = g 70 j) (hP : w_P g') : w_R4 n W H z g' := by
  obtain ⟨hN, hT, hK, _, hF, hS⟩ := h
  refine ⟨⟨(e70 4 (by omega)).trans hN.1, (e70 2 (by omega)).trans hN.2.1, (e70 3 (by omega)).trans hN.2.2⟩, hT.same (fun a h1 h2 => e a (by omega) (by omega) (by omega) (by omega)) (e 71 (by omega) (by omega) (by omega) (by omega)), hK.cg (by rw [e 8 (by omega) (by omega) (by omega) (by omega)]) (e 72 (by omega) (by omega) (by omega) (by omega)) (fun a h1 h2 => e a (by omega) (by omega) (by omega) (by omega)) (fun j hj => by rw [e 71 (by omega) (by omega) (by omega) (by omega)]), hP, ?_, fun k hk => ?_⟩
  · rw [e 11 (by omega) (by omega) (by omega) (by omega), e70 18 (by omega)]; exact hF
  · exact (hS k hk).cg (by rw [e 84 (by omega) (by omega) (by omega) (by omega)]) (by rw [e 85 (by omega) (by omega) (by omega) (by omega)]) (e _ (by omega) (by omega) (by omega) (by omega)) (e _ (by omega) (by omega) (by omega) (by omega)) (fun j hj => by rw [e 86 (by omega) (by omega) (by omega) (by omega)])
theorem pr_feed (x : Int32) (g : qM) (u : qW) (h : w_R g) : w_2 10 148 [.int x] g u := by
  obtain ⟨n, W, H, z, h⟩ := h
  obtain ⟨s, s1, s2, s3, s4⟩ := h.2.2.2.1
  have q1 := b_feed x s g u s2 s1
  have q2 := fun g1 (e : g1 70 13 = Int32.ofNat s) => b_rfeed x s g1 u e s1
  have c0 : (0 : Int32).toInt = 0 := rfl
  have c7 : (127 : Int32).toInt = 127 := rfl
  have d0 : (0 : Int64).toInt = 0 := rfl
  have d7 : (127 : Int64).toInt = 127 := rfl
  by_cases hb : 0 ≤ x.toInt ∧ x.toInt ≤ 127
  · have a1 : ¬ x < 0 := fun y => by rw [Int32.lt_iff_toInt_lt] at y; omega
    have a2 : x ≤ 127 := Int32.le_iff_toInt_le.mpr (by omega)
    have a3 : ¬ s_in (Int32.toInt64 x) (0 : Int64) (127 : Int64) = 0 := s_in_i.mpr (by omega)
    unfold d_feed at q1
    rw [if_neg a1, if_pos a2, k_i8 hb.1 hb.2] at q1
    by_cases hs : s < 160
    · rw [if_pos (show g 9 1 < 160 from by rw [s2]; exact (q_lt (j := 160) (by omega) (by omega)).mpr hs), s2, q_succ] at q1
      have q3 := q2 (q_up (q_up g 10 s x) 9 1 (Int32.ofNat (s + 1))) s3
      unfold d_rfeed at q3
      rw [if_neg a3, if_neg (show ¬ q_up (q_up g 10 s x) 9 1 (Int32.ofNat (s + 1)) 70 13 = 160 from fun y => by
        have y2 : g 70 13 = Int32.ofNat 160 := y
        rw [s3] at y2
        have := (q_eq (by omega) (by omega)).mp y2
        omega), show q_up (q_up g 10 s x) 9 1 (Int32.ofNat (s + 1)) 70 13 = Int32.ofNat s from s3, q_succ] at q3
      refine ⟨_, _, _, _, _, q1, q3, n, W, H, z, h.tape (fun a h1 h2 h3 h4 => ?_) (fun j hj => ?_) ⟨s + 1, hs, rfl, rfl, fun j hj => ?_⟩⟩
      · rw [q_up_ne h3, q_up_ne h4, q_up_ne h1, q_up_ne h2]
      · rw [q_up_at, if_neg hj, q_up_ne (by decide), q_up_ne (by decide), q_up_ne (by decide)]
      · rw [q_up_ne (by decide), q_up_at, q_up_ne (by decide), q_up_ne (by decide), q_up_ne (by decide), q_up_ne (by decide), q_up_ne (by decide), q_up_at]
        by_cases e : j = s
        · rw [if_pos e, if_pos e]
          exact ⟨rfl, hb.1⟩
        · rw [if_neg e, if_neg e]
          exact s4 j (by omega)
    · have e : s = 160 := by omega
      rw [if_neg (show ¬ g 9 1 < 160 from fun y => by
        rw [s2] at y
        have := (q_lt (j := 160) (by omega) (by omega)).mp y
        omega)] at q1
      have q3 := q2 g s3
      unfold d_rfeed at q3
      rw [if_neg a3, if_pos (show g 70 13 = 160 from by rw [s3, e]; rfl)] at q3
      exact w_2n h q1 q3
  · have e1 : d_feed x s g u = (some (.int (Int32.ofInt (-1))), g, u) := by
      unfold d_feed
      by_cases c : x < 0
      · rw [if_pos c]
      · rw [if_neg c, if_neg]
        intro y
        rw [Int32.lt_iff_toInt_lt] at c
        rw [Int32.le_iff_toInt_le] at y
        omega
    have e2 : d_rfeed x s g u = (some (.int (Int32.ofInt (-1))), g, u) := by
      unfold d_rfeed
      rw [if_pos]
      refine Classical.byContradiction (fun c => hb ?_)
      have y := s_in_i.mp c
      omega
    have q3 := q2 g s3
    rw [e1] at q1
    rw [e2] at q3
    exact w_2n h q1 q3
theorem pr_end (x : Int32) (g : qM) (u : qW) (h : w_R g) : w_2 12 150 [.int x] g u := by
  obtain ⟨n, W, H, z, h⟩ := h
  obtain ⟨s, s1, s2, s3, s4⟩ := h.2.2.2.1
  have q1 := b_end x g u
  by_cases hb : v_rg 0 s x
  · obtain ⟨m, m0, m1, rfl⟩ := hb
    unfold d_end at q1
    rw [if_neg (show ¬ Int32.ofNat m < 0 from fun y => absurd ((q_lt (j := 0) (by omega) (by omega)).mp y) (by omega)), if_pos (show Int32.ofNat m ≤ g 9 1 from by rw [s2]; exact (q_le (by omega) (by omega)).mpr m1)] at q1
    have q2 := b_rend (Int32.ofNat m) (q_up g 9 1 (Int32.ofNat m)) u
    unfold d_rend at q2
    rw [if_neg (show ¬ s_in (Int32.toInt64 (Int32.ofNat m)) (0 : Int64) (Int32.toInt64 (q_up g 9 1 (Int32.ofNat m) 70 13)) = 0 from by
      rw [s_in_i, show (0 : Int64).toInt = 0 from rfl, Int32.toInt_toInt64, show q_up g 9 1 (Int32.ofNat m) 70 13 = Int32.ofNat s from s3, q_nat (by omega), q_nat (by omega)]
      omega), show q_up g 9 1 (Int32.ofNat m) 70 13 = g 9 1 from s3.trans s2.symm] at q2
    refine ⟨_, _, _, _, _, q1, q2, n, W, H, z, h.tape (fun a h1 h2 h3 h4 => ?_) (fun j hj => ?_) ⟨m, by omega, rfl, rfl, fun j hj => ?_⟩⟩
    · rw [q_up_ne h3, q_up_ne h1]
    · rw [q_up_at, if_neg hj, q_up_ne (by decide)]
    · rw [q_up_ne (by decide), q_up_ne (by decide), q_up_ne (by decide), q_up_ne (by decide)]
      exact s4 j (by omega)
  · have e1 : d_end x g u = (some (.int (Int32.ofInt (-1))), g, u) := by
      unfold d_end
      by_cases c : x < 0
      · rw [if_pos c]
      · rw [if_neg c, if_neg (fun y => hb (by rw [s2] at y; exact vr_c' (lo := 0) (by omega) (by omega) c y))]
    have e2 : d_rend x g u = (some (.int (Int32.ofInt (-1))), g, u) := by
      unfold d_rend
      rw [if_pos]
      refine Classical.byContradiction (fun c => hb ?_)
      rw [s_in_i, show (0 : Int64).toInt = 0 from rfl, Int32.toInt_toInt64, s3, q_nat (by omega)] at c
      exact v_nat c.1 c.2
    have q2 := b_rend x g u
    rw [e1] at q1
    rw [e2] at q2
    exact w_2n h q1 q2
theorem pr_text (g : qM) (u : qW) (h : w_R g) : w_2 13 151 [] g u := by
  obtain ⟨n, W, H, z, h⟩ := h
  obtain ⟨s, s1, s2, s3, s4⟩ := h.2.2.2.1
  obtain ⟨g1, q1, f1, f2, f3, f4, f5, f6⟩ := c_text (b := g 10) g u rfl s2 s1
  have hb : k_b (g 10) s g1 := ⟨by rw [f1 70 (by omega)]; exact s3, s1, fun j hj => by rw [f1 74 (by omega)]; exact s4 j hj⟩
  obtain ⟨_, q2, g2, rfl, e1, e2, e3, e4, e5, e6, e7⟩ := r_text g1 u hb
  have P : w_P g2 := ⟨0, by omega, by rw [e1 9 (by omega)]; exact f3, e4, fun j hj => absurd hj (by omega)⟩
  have F : g2 11 2 = g2 70 18 := by rw [e1 11 (by omega), e5]; exact f4
  have S : ∀ k, k < 4 → w_S k g2 := fun k hk => (h.2.2.2.2.2 k hk).cg (by rw [e1 84 (by omega), f1 84 (by omega)]) (by rw [e1 85 (by omega), f1 85 (by omega)]) (by rw [e1 _ (by omega), f1 _ (by omega)]) (by rw [e1 _ (by omega), f1 _ (by omega)]) (fun j hj => by rw [e1 86 (by omega), f1 86 (by omega)])
  by_cases e0 : (o_text (g 10) s).1.1 = 0
  · obtain ⟨k1, k2⟩ := f6 e0
    obtain ⟨c1, c2, c3, c4, c5, c6⟩ := e7 e0
    have hdn := (o_text_ok e0).1
    have hdm := (o_text_ok e0).2
    have hlt := (o_text_dm e0).2.2
    obtain ⟨N, eN, hN25, hmis⟩ := k_mis hdm hdn
    have hA := (hmis.mp hlt).1
    obtain ⟨⟨W', H', w1, w2, w3, w4, w5, w6⟩, d2, d3, d4, d5, d6, d7, d8, d9, d10⟩ := hdm
    have eNN : N = W' * H' := by
      rw [w5, w6, q_mul] at eN
      have hw := (k_wh (W := W') (H := H') ⟨w2, w4⟩).2
      exact ((q_eq (by omega) (by omega)).mp eN).symm
    refine ⟨_, _, _, _, _, q1, q2, t_n (o_text (g 10) s).1.2.2.2, W', H', 0, ⟨c6.trans hdn.1, c4.trans w5, c5.trans w6⟩, ?_, ⟨⟨0, by omega, by rw [e1 8 (by omega)]; exact k1, ⟨fun _ => rfl, fun _ => c1⟩, ⟨fun _ => rfl, fun _ => c2⟩⟩, fun y => absurd c1 y, fun y => absurd c2 y⟩, P, F, S⟩
    unfold w_TT
    rw [e1 20 (by omega), e1 21 (by omega), e1 22 (by omega), e1 23 (by omega), e1 24 (by omega), e1 25 (by omega), e1 26 (by omega), e1 27 (by omega)]
    obtain ⟨⟨b1, b2, b3, b4, b5, b6, b7⟩, b8, b9, b10⟩ := k2
    have h5 := hdn.2.1
    refine ⟨⟨b1.trans w5, b2.trans w6, b3.trans (c3 20 (by omega)).symm, b4.trans hdn.1, b5.trans (c3 25 (by omega)).symm, b6.trans ((c3 26 (by omega)).trans d10.1).symm, b7, (c3 27 (by omega)).trans d10.2⟩, ⟨w1, w2, w3, w4, h5, by omega⟩, ⟨0, by omega, (c3 26 (by omega)).trans d10.1⟩, fun d h1 h2 => ?_, fun p hp => ⟨?_, ?_, ?_, ?_⟩, fun k hk => absurd hk (by omega), fun p hp => ?_, fun p q hp hq hpq => ?_, fun p hp => ?_, fun q hq => ?_, fun p hp => ?_⟩
    · rw [c3 (20 + d) (by omega)]; exact b8 d h1 h2
    · rw [c3 p (by omega)]; exact (b9 p hp).1
    · rw [c3 (5 + p) (by omega)]; exact (b9 p hp).2.1
    · rw [c3 (10 + p) (by omega)]; exact (b9 p hp).2.2
    · rw [c3 (15 + p) (by omega)]; exact b10 p (by omega)
    · rw [c3 p (by omega)]
      obtain ⟨C, hC, eC⟩ := (d2 p hp).1
      have y := hA p hp
      rw [eC, q_nat (by omega)] at y
      exact ⟨C, by omega, eC⟩
    · rw [c3 p (by omega), c3 q (by omega)]; exact d3 p q hp hq hpq
    · rw [c3 p (by omega), c3 20 (by omega)]; exact d4 p hp
    · rw [c3 (5 + q) (by omega)]; exact d9 q hq
    · rw [c3 (10 + p) (by omega)]; exact (d2 p hp).2.2
  · have k1 := f5 e0
    obtain ⟨c1, c2, c3⟩ := e6 e0
    have e71 : g2 71 = g 71 := c1.trans (f1 71 (by omega))
    refine ⟨_, _, _, _, _, q1, q2, n, W, H, z, ⟨(c3 4 (by omega)).trans (by rw [f1 70 (by omega)]; exact h.1.1), (c3 2 (by omega)).trans (by rw [f1 70 (by omega)]; exact h.1.2.1), (c3 3 (by omega)).trans (by rw [f1 70 (by omega)]; exact h.1.2.2)⟩, h.2.1.same (fun a h1 h2 => (e1 a (by omega)).trans (k1 a (by omega))) e71, h.2.2.1.cg (by rw [e1 8 (by omega), k1 8 (by omega)]) (c2.trans (f1 72 (by omega))) (fun a h1 h2 => (e1 a (by omega)).trans (k1 a (by omega))) (fun j hj => by rw [e71]), P, F, S⟩
theorem pr_go1 {n W H z m : Nat} (g : qM) (u : qW) (h : w_R4 n W H z g) (hm : m ≤ 60) {t : Nat} (ht : g 71 26 = Int32.ofNat t) (htm : t + m ≤ 999) : w_2 75 196 [.int (Int32.ofNat m)] g u := by
  have h5 := h.n5
  have ok := h.ok
  have cs := h.cs
  have hgo := h.hgo
  have e5 : g 20 5 = Int32.ofNat t := h.2.1.1.2.2.2.2.2.1.trans ht
  have es : g 20 5 + Int32.ofNat m = Int32.ofNat (t + m) := by rw [e5, q_add]
  have q1 := c_go u ok cs hm hgo (by rw [es]; exact fun y => absurd ((q_le (i := 1000) (by omega) (by omega)).mp y) (by omega))
  rw [es] at q1
  generalize eg1 : q_up (s_tss 20 n m g) 20 5 (Int32.ofNat (t + m)) = g1 at q1
  have fg : ∀ b, (b < 28 ∨ 33 < b) → b ≠ 20 → b ≠ 21 → b ≠ 22 → g1 b = g b := fun b h1 h2 h3 h4 => by
    rw [← eg1, q_up_ne h2]
    exact s_tss_g h1 ⟨h2, h3, h4⟩ m g
  have e70 : g1 70 = g 70 := fg 70 (by omega) (by omega) (by omega) (by omega)
  have e71 : g1 71 = g 71 := fg 71 (by omega) (by omega) (by omega) (by omega)
  have hsm : w_sm n (s_start g1) (s_start g) := w_sms2 h5 e70 e71
  have hg1 : ∀ p, p < n → g1 71 (15 + p) = s_start g 78 p := fun p hp => by
    rw [e71]
    exact (w_sms0 (g := g) h5).2 p hp
  have es1 : g1 71 26 + Int32.ofNat m = Int32.ofNat (t + m) := by rw [e71, ht, q_add]
  have q2 := r_go (g := g1) u ok hsm h5 hm hg1 (by rw [es1]; exact fun y => absurd ((q_lt (i := 999) (by omega) (by omega)).mp y) (by omega))
  have okR := w_ok_rit m (s_start g1) (w_ok_sm ok hsm)
  have csR : w_cs 20 n (s_tss 20 n m g) (s_rit n m (s_start g1)) := w_cs_sm (w_tss20 ok cs m) (w_sm_rit m (s_start g1) (s_start g) ok hsm)
  generalize eR : s_rit n m (s_start g1) = R at okR csR
  have fR : ∀ b, b ≠ 75 → b ≠ 76 → b ≠ 79 → b ≠ 80 → b ≠ 81 → R b = s_start g1 b := fun b h1 h2 h3 h4 h5 => by
    rw [← eR]
    exact s_rit_g ⟨h1, h2, h3, h4, h5⟩ m _
  have eG : ∀ b, b ≠ 71 → s_rgo n m g1 b = R b := fun b hb => by
    funext j
    rw [← eR]
    exact if_neg hb
  have G71 : ∀ j, s_rgo n m g1 71 j = if j < 5 then R 75 j else if j < 10 then R 76 (j - 5) else if j = 26 then Int32.ofNat (t + m) else g 71 j := fun j => by
    show (if (71 : Nat) = 71 then (if j < 5 then s_rit n m (s_start g1) 75 j else if j < 10 then s_rit n m (s_start g1) 76 (j - 5) else if j = 26 then g1 71 26 + Int32.ofNat m else g1 71 j) else _) = _
    rw [if_pos rfl, eR, es1, e71]
  have Gc : ∀ b, b ≠ 71 → b ≠ 75 → b ≠ 76 → b ≠ 79 → b ≠ 80 → b ≠ 81 → b ≠ 70 → b ≠ 77 → b ≠ 78 → s_rgo n m g1 b = g1 b := fun b h1 h2 h3 h4 h5 h6 h7 h8 h9 => by
    rw [eG b h1, fR b h2 h3 h4 h5 h6]
    exact s_start_o ⟨h7, h2, h3, h8, h9⟩
  have G70 : ∀ j, j ≠ 27 → s_rgo n m g1 70 j = g 70 j := fun j hj => by
    rw [eG 70 (by decide), fR 70 (by decide) (by decide) (by decide) (by decide) (by decide)]
    show (if j = 27 then g1 70 4 else g1 70 j) = _
    rw [if_neg hj, e70]
  have R71 : R 71 = g 71 := by
    rw [fR 71 (by decide) (by decide) (by decide) (by decide) (by decide), s_start_o (by decide), e71]
  have R77 : ∀ p, p < 5 → R 77 p = g 71 (10 + p) := fun p hp => by
    rw [fR 77 (by decide) (by decide) (by decide) (by decide) (by decide)]
    show (if p < 5 then g1 71 (10 + p) else g1 77 p) = _
    rw [if_pos hp, e71]
  have Gtss : ∀ j, j ≠ 5 → g1 20 j = s_tss 20 n m g 20 j := fun j hj => by rw [← eg1, q_up_at, if_neg hj]
  have G5 : g1 20 5 = Int32.ofNat (t + m) := by rw [← eg1]; exact (q_up_at).trans (if_pos rfl)
  have Gr : ∀ b, b ≠ 20 → g1 b = s_tss 20 n m g b := fun b hb => by rw [← eg1, q_up_ne hb]
  obtain ⟨t1, t2, t3, t4, t5, t6, t7, t8, t9, t10, t11⟩ := h.2.1
  refine ⟨_, _, _, _, _, q1, q2, n, W, H, z, h.town ⟨fun a ha => ?_, ⟨?_, ?_, ?_⟩, fun j hj => G70 j (by omega), fun j hj => ?_⟩ ?_⟩
  · rw [Gc a (by omega) (by omega) (by omega) (by omega) (by omega) (by omega) (by omega) (by omega) (by omega)]
    exact fg a (by omega) (by omega) (by omega) (by omega)
  · rw [Gc 8 (by omega) (by omega) (by omega) (by omega) (by omega) (by omega) (by omega) (by omega) (by omega), fg 8 (by omega) (by omega) (by omega) (by omega)]
  · rw [Gc 9 (by omega) (by omega) (by omega) (by omega) (by omega) (by omega) (by omega) (by omega) (by omega), fg 9 (by omega) (by omega) (by omega) (by omega)]
  · rw [Gc 11 (by omega) (by omega) (by omega) (by omega) (by omega) (by omega) (by omega) (by omega) (by omega), fg 11 (by omega) (by omega) (by omega) (by omega)]
  · rw [G71 j, if_neg (by omega), if_neg (by omega), if_neg (by omega)]
  · unfold w_TT
    rw [Gc 20 (by omega) (by omega) (by omega) (by omega) (by omega) (by omega) (by omega) (by omega) (by omega), Gc 21 (by omega) (by omega) (by omega) (by omega) (by omega) (by omega) (by omega) (by omega) (by omega), Gc 22 (by omega) (by omega) (by omega) (by omega) (by omega) (by omega) (by omega) (by omega) (by omega), Gc 23 (by omega) (by omega) (by omega) (by omega) (by omega) (by omega) (by omega) (by omega) (by omega), Gc 24 (by omega) (by omega) (by omega) (by omega) (by omega) (by omega) (by omega) (by omega) (by omega), Gc 25 (by omega) (by omega) (by omega) (by omega) (by omega) (by omega) (by omega) (by omega) (by omega), Gc 26 (by omega) (by omega) (by omega) (by omega) (by omega) (by omega) (by omega) (by omega) (by omega), Gc 27 (by omega) (by omega) (by omega) (by omega) (by omega) (by omega) (by omega) (by omega) (by omega)]
    have s5 : ∀ p, p < 5 → s_rgo n m g1 71 p = R 75 p := fun p hp => by rw [G71, if_pos hp]
    have s10 : ∀ p, p < 5 → s_rgo n m g1 71 (5 + p) = R 76 p := fun p hp => by rw [G71, if_neg (by omega), if_pos (by omega), show 5 + p - 5 = p by omega]
    have sre : ∀ j, 10 ≤ j → j ≠ 26 → s_rgo n m g1 71 j = g 71 j := fun j h1 h2 => by rw [G71, if_neg (by omega), if_neg (by omega), if_neg h2]
    have s26 : s_rgo n m g1 71 26 = Int32.ofNat (t + m) := by rw [G71, if_neg (by omega), if_neg (by omega), if_pos rfl]
    generalize s_rgo n m g1 71 = st at s5 s10 sre s26
    refine ⟨⟨?_, ?_, ?_, ?_, ?_, ?_, ?_, ?_⟩, t2, ⟨t + m, htm, s26⟩, fun d h1 h2 => ?_, fun p hp => ⟨?_, ?_, ?_, ?_⟩, fun k hk => ?_, fun p hp => ?_, fun p q hp hq hpq => ?_, fun p hp => ?_, fun q hq => ?_, fun p hp => ?_⟩
    · rw [Gtss 0 (by omega), csR.1.2.1]; exact okR.2.2.1
    · rw [Gtss 1 (by omega), csR.1.2.2.1]; exact okR.2.2.2.1
    · rw [Gtss 2 (by omega), csR.1.2.2.2.1, R71, sre 20 (by omega) (by omega)]
    · rw [Gtss 3 (by omega), csR.1.1]; exact okR.2.1
    · rw [Gtss 4 (by omega), csR.1.2.2.2.2, R71, sre 25 (by omega) (by omega)]
    · rw [G5, s26]
    · rw [Gtss 6 (by omega), s_tss_6]; exact t1.2.2.2.2.2.2.1
    · rw [sre 27 (by omega) (by omega)]; exact t1.2.2.2.2.2.2.2
    · rw [fg 25 (by omega) (by omega) (by omega) (by omega), sre (20 + d) (by omega) (by omega)]; exact t4 d h1 h2
    · rw [Gr 21 (by omega), s5 p (by omega)]; exact (csR.2.2 p hp).1
    · rw [Gr 22 (by omega), s10 p (by omega)]; exact (csR.2.2 p hp).2.1
    · rw [Gr 23 (by omega), sre (10 + p) (by omega) (by omega), ← R77 p (by omega)]; exact (csR.2.2 p hp).2.2
    · rw [fg 24 (by omega) (by omega) (by omega) (by omega), sre (15 + p) (by omega) (by omega)]; exact (t5 p hp).2.2.2
    · rw [fg 26 (by omega) (by omega) (by omega) (by omega), fg 27 (by omega) (by omega) (by omega) (by omega), sre (28 + 2 * k) (by omega) (by omega), sre (29 + 2 * k) (by omega) (by omega)]; exact t6 k hk
    · rw [s5 p (by omega)]; exact okR.2.2.2.2.1 p hp
    · rw [s5 p (by omega), s5 q (by omega)]; exact okR.2.2.2.2.2.1 p q hp hq hpq
    · have y := okR.2.2.2.2.2.2.1 p hp
      rw [R71] at y
      rw [s5 p (by omega), sre 20 (by omega) (by omega)]
      exact y
    · rw [s10 q hq]
      by_cases hqn : q < n
      · exact okR.2.2.2.2.2.2.2.1 q hqn
      · rw [← eR, s_rit_76 (by omega)]
        show (if q < 5 then g1 71 (5 + q) else g1 76 q) = 0 ∨ (if q < 5 then g1 71 (5 + q) else g1 76 q) = 1 ∨ (if q < 5 then g1 71 (5 + q) else g1 76 q) = 2 ∨ (if q < 5 then g1 71 (5 + q) else g1 76 q) = 3
        rw [if_pos hq, e71]
        exact t10 q hq
    · rw [sre (10 + p) (by omega) (by omega)]; exact t11 p hp
theorem sg_gf_1 (big : Nat → List Value → qM → qW → qR) (n0 : Nat) (G : qM) (U : qW) (v0 : Int32) : qm_run pm_m big m_75 (n0 + 1) 0 [(0, .ref 8), (1, .int v0)] [] G U = qm_run pm_m big m_75 n0 1 [(0, .ref 8), (1, .int v0)] [.int v0] G U := rfl
theorem sg_gf_2 (big : Nat → List Value → qM → qW → qR) (n0 : Nat) (G : qM) (U : qW) (v0 : Int32) : qm_run pm_m big m_75 (n0 + 2) 4 [(0, .ref 8), (1, .int v0)] [] G U = qm_run pm_m big m_75 n0 7 [(0, .ref 8), (1, .int v0)] [.int (60 : Int32), .int v0] G U := rfl
theorem sg_gf_3 (big : Nat → List Value → qM → qW → qR) (n0 : Nat) (G : qM) (U : qW) (v0 : Int32) : qm_run pm_m big m_75 (n0 + 6) 12 [(0, .ref 8), (1, .int v0)] [] G U = qm_run pm_m big m_75 n0 24 [(0, .ref 8), (1, .int v0)] [.int (1000 : Int32), .int ((G 20 5) + v0)] G U := rfl
theorem sg_gf_4 (big : Nat → List Value → qM → qW → qR) (n0 : Nat) (G : qM) (U : qW) (v0 : Int32) : qm_run pm_m big m_196 (n0 + 4) 0 [(0, .ref 70), (1, .int v0)] [] G U = qm_run pm_m big m_196 n0 6 [(0, .ref 70), (1, .int v0)] [.long (60 : Int64), .long (0 : Int64), .long (Int32.toInt64 v0)] G U := rfl
theorem sg_gf_5 (big : Nat → List Value → qM → qW → qR) (n0 : Nat) (G : qM) (U : qW) (v0 : Int32) : qm_run pm_m big m_196 (n0 + 7) 14 [(0, .ref 70), (1, .int v0)] [] G U = qm_run pm_m big m_196 n0 26 [(0, .ref 70), (1, .int v0)] [.int (999 : Int32), .int ((G 71 26) + v0)] G U := rfl
theorem c_gof {m : Nat} (g : qM) (u : qW) (hm : m ≤ 60) (hs : 1000 ≤ g 20 5 + Int32.ofNat m) : q_BS 75 [.ref 8, .int (Int32.ofNat m)] g u (some (.int (Int8.toInt32 (Int8.ofInt (-3)))), g, u) := by
  refine q_bx (mm := m_75) rfl (Nat.le_of_ble_eq_true rfl) rfl ?_
  refine q_step 1 1 [(0, .ref 8), (1, .int (Int32.ofNat m))] [.int (Int32.ofNat m)] g u (fun big n0 => sg_gf_1 big n0 g u (Int32.ofNat m)) ?_
  refine q_if_lt rfl (fun hc0 => absurd (show (Int32.ofNat m) < 0 from hc0) (fun z => by rw [show (0 : Int32) = Int32.ofNat 0 from rfl, q_lt (by omega) (by omega)] at z; omega)) (fun (hc0 : ¬ ((Int32.ofNat m) < 0)) => ?_)
  refine q_step 2 7 [(0, .ref 8), (1, .int (Int32.ofNat m))] [.int (60 : Int32), .int (Int32.ofNat m)] g u (fun big n0 => sg_gf_2 big n0 g u (Int32.ofNat m)) ?_
  refine q_ic_le rfl (fun (hc1 : (Int32.ofNat m) ≤ (60 : Int32)) => ?_) (fun hc1 => absurd (show (Int32.ofNat m) ≤ (60 : Int32) from (q_le (j := 60) (by omega) (by omega)).mpr hm) hc1)
  refine q_step 6 24 [(0, .ref 8), (1, .int (Int32.ofNat m))] [.int (1000 : Int32), .int ((g 20 5) + (Int32.ofNat m))] g u (fun big n0 => sg_gf_3 big n0 g u (Int32.ofNat m)) ?_
  refine q_ic_lt rfl (fun hc2 => absurd (show ((g 20 5) + (Int32.ofNat m)) < (1000 : Int32) from hc2) (fun z => absurd (show (1000 : Int32) ≤ g 20 5 + Int32.ofNat m from hs) (Int32.not_le.mpr z))) (fun (hc2 : ¬ (((g 20 5) + (Int32.ofNat m)) < (1000 : Int32))) => ?_)
  refine q_ret 2 (some (.int (Int8.toInt32 (Int8.ofInt (-3)))), g, u) (fun _ _ => rfl) ?_
  rfl
theorem r_gof {m : Nat} (g : qM) (u : qW) (hm : m ≤ 60) (hq : 999 < g 71 26 + Int32.ofNat m) : q_BS 196 [.ref 70, .int (Int32.ofNat m)] g u (some (.int (Int8.toInt32 (Int8.ofInt (-3)))), g, u) := by
  refine q_bx (mm := m_196) rfl (Nat.le_of_ble_eq_true rfl) rfl ?_
  refine q_step 4 6 [(0, .ref 70), (1, .int (Int32.ofNat m))] [.long (60 : Int64), .long (0 : Int64), .long (Int32.toInt64 (Int32.ofNat m))] g u (fun big n0 => sg_gf_4 big n0 g u (Int32.ofNat m)) ?_
  refine q_call (M2 := 149) (rest := []) (b_in _ _ _ _ _) (fun _ _ => rfl) ?_
  refine q_if_ne rfl (fun hc0 => absurd (show (s_in (Int32.toInt64 (Int32.ofNat m)) (0 : Int64) (60 : Int64)) = 0 from hc0) (s_in_i.mpr (by rw [show (0 : Int64).toInt = 0 from rfl, show (60 : Int64).toInt = 60 from rfl, q_nat (by omega)]; omega))) (fun (hc0 : ¬ ((s_in (Int32.toInt64 (Int32.ofNat m)) (0 : Int64) (60 : Int64)) = 0)) => ?_)
  refine q_step 7 26 [(0, .ref 70), (1, .int (Int32.ofNat m))] [.int (999 : Int32), .int ((g 71 26) + (Int32.ofNat m))] g u (fun big n0 => sg_gf_5 big n0 g u (Int32.ofNat m)) ?_
  refine q_ic_le rfl (fun hc1 => absurd (show ((g 71 26) + (Int32.ofNat m)) ≤ (999 : Int32) from hc1) (fun z => absurd hq (Int32.not_lt.mpr z))) (fun (hc1 : ¬ (((g 71 26) + (Int32.ofNat m)) ≤ (999 : Int32))) => ?_)
  refine q_ret 2 (some (.int (Int8.toInt32 (Int8.ofInt (-3)))), g, u) (fun _ _ => rfl) ?_
  rfl
theorem pr_go (x : Int32) (g : qM) (u : qW) (h : w_R g) : w_2 75 196 [.int x] g u := by
  obtain ⟨n, W, H, z, h⟩ := h
  have h5 := h.n5
  have h25 := h.wh
  have ok := h.ok
  have cs := h.cs
  have hgo := h.hgo
  obtain ⟨hn, hW, hH⟩ := h.1
  have hn2 : g 20 3 = Int32.ofNat n := h.2.1.1.2.2.2.1
  have hW2 : g 20 0 = Int32.ofNat W := h.2.1.1.1
  have hH2 : g 20 1 = Int32.ofNat H := h.2.1.1.2.1
  by_cases hb : v_rg 0 60 x
  · obtain ⟨m, m0, m1, rfl⟩ := hb
    obtain ⟨t, ht, et⟩ := h.2.1.2.2.1
    by_cases htm : t + m ≤ 999
    · exact pr_go1 g u h m1 et htm
    · have e5 : g 20 5 = Int32.ofNat t := h.2.1.1.2.2.2.2.2.1.trans et
      exact w_2n h (c_gof g u m1 (by rw [e5, q_add]; exact (q_le (i := 1000) (by omega) (by omega)).mpr (by omega))) (r_gof g u m1 (by rw [et, q_add]; exact (q_lt (i := 999) (by omega) (by omega)).mpr (by omega)))
  · exact w_2n h (cb_go g u hn2 hW2 hH2 (by omega) h25 x hb) (rb_go g u hn hW hH (by omega) h25 x hb)
