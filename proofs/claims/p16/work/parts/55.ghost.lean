/-! GHOSTS: a reference's cells r, which a search of either side is held against. -/
/-- r is in order: n ones in a town W by H -/
def w_ok (n W H : Nat) (r : qM) : Prop := (2 ≤ W ∧ W ≤ 5 ∧ 2 ≤ H ∧ H ≤ 5 ∧ n ≤ 6) ∧ r 70 27 = Int32.ofNat n ∧ r 70 2 = Int32.ofNat W ∧ r 70 3 = Int32.ofNat H ∧ (∀ p, p < n → ∃ C, C < W * H ∧ r 75 p = Int32.ofNat C) ∧ (∀ p q, p < n → q < n → p ≠ q → r 75 p ≠ r 75 q) ∧ (∀ p, p < n → s_bit (r 71 20) (r 75 p) = 0) ∧ (∀ p, p < n → r 76 p = 0 ∨ r 76 p = 1 ∨ r 76 p = 2 ∨ r 76 p = 3) ∧ (∀ p, p < n → r 77 p = 0 ∨ r 77 p = 1)
/-- the reference's cells g tell of the same as r -/
def w_sm (n : Nat) (g r : qM) : Prop := (g 70 27 = r 70 27 ∧ g 70 2 = r 70 2 ∧ g 70 3 = r 70 3 ∧ g 71 20 = r 71 20 ∧ g 71 25 = r 71 25) ∧ (∀ d, 1 ≤ d → d ≤ 4 → g 71 (20 + d) = r 71 (20 + d)) ∧ ∀ p, p < n → g 75 p = r 75 p ∧ g 76 p = r 76 p ∧ g 77 p = r 77 p
/-- the class's town T tells of the same as r -/
def w_cs (T n : Nat) (g r : qM) : Prop := (g T 3 = r 70 27 ∧ g T 0 = r 70 2 ∧ g T 1 = r 70 3 ∧ g T 2 = r 71 20 ∧ g T 4 = r 71 25) ∧ (∀ d, 1 ≤ d → d ≤ 4 → g (T + 5) d = r 71 (20 + d)) ∧ ∀ p, p < n → g (T + 1) p = r 75 p ∧ g (T + 2) p = r 76 p ∧ g (T + 3) p = r 77 p
/-- what a class's search may write: 28 to 43 -/
def w_fc (g g' : qM) : Prop := ∀ b, b < 28 ∨ 43 < b → g' b = g b
/-- what a reference's search may write -/
def w_fr (g g' : qM) : Prop := (∀ b, b < 70 ∨ (70 < b ∧ b < 75) ∨ (83 < b ∧ b < 87) ∨ 87 < b → g' b = g b) ∧ ∀ j, j ≠ 27 → g' 70 j = g 70 j
theorem w_fc_rfl (g : qM) : w_fc g g := fun _ _ => rfl
theorem w_fc.trans {a b c : qM} (h1 : w_fc a b) (h2 : w_fc b c) : w_fc a c := fun x hx => (h2 x hx).trans (h1 x hx)
theorem w_fc.up {g g' : qM} (h : w_fc g g') {a j : Nat} {x : Int32} (ha : 28 ≤ a ∧ a ≤ 43) : w_fc g (q_up g' a j x) := fun b hb => by
  rw [q_up_ne (by omega)]
  exact h b hb
theorem w_fr_rfl (g : qM) : w_fr g g := ⟨fun _ _ => rfl, fun _ _ => rfl⟩
theorem w_fr.trans {a b c : qM} (h1 : w_fr a b) (h2 : w_fr b c) : w_fr a c := ⟨fun x hx => (h2.1 x hx).trans (h1.1 x hx), fun x hx => (h2.2 x hx).trans (h1.2 x hx)⟩
theorem w_fr.up {g g' : qM} (h : w_fr g g') {a j : Nat} {x : Int32} (ha : (75 ≤ a ∧ a ≤ 83) ∨ a = 87) : w_fr g (q_up g' a j x) := ⟨fun b hb => by
  rw [q_up_ne (by omega)]
  exact h.1 b hb, fun k hk => by
  rw [q_up_ne (by omega)]
  exact h.2 k hk⟩
theorem w_fr.up27 {g g' : qM} (h : w_fr g g') {x : Int32} : w_fr g (q_up g' 70 27 x) := ⟨fun b hb => by
  rw [q_up_ne (by omega)]
  exact h.1 b hb, fun k hk => by
  rw [q_up_at, if_neg hk]
  exact h.2 k hk⟩
/-- how the two stand to the rows before -/
theorem w_vi {T n W H : Nat} {g r : qM} (h : w_ok n W H r) (hc : w_cs T n g r) : s_vw T n W H g r ∧ s_iv T n W H g := by
  obtain ⟨_, h1, h2, h3, h4, h5, h6, h7, h8⟩ := h
  obtain ⟨⟨c1, c2, c3, c4, c5⟩, c6, c7⟩ := hc
  refine ⟨⟨c1.trans h1, h1, c2.trans h2, c3.trans h3, h2, h3, c4.symm, c5.symm, fun d a b => (c6 d a b).symm, fun p hp => (c7 p hp).1.symm, fun p hp => (c7 p hp).2.1.symm, fun p hp => (c7 p hp).2.2.symm⟩, fun p hp => ?_, fun p q hp hq hpq => ?_, fun p hp => ?_, fun p hp => ?_, fun p hp => ?_⟩
  · obtain ⟨C, hC, e⟩ := h4 p hp
    exact ⟨C, hC, (c7 p hp).1.trans e⟩
  · rw [(c7 p hp).1, (c7 q hq).1]
    exact h5 p q hp hq hpq
  · rw [c4, (c7 p hp).1]
    exact h6 p hp
  · rw [(c7 p hp).2.1]
    exact h7 p hp
  · rw [(c7 p hp).2.2]
    exact h8 p hp
theorem w_iv {T n W H : Nat} {g r : qM} (hb : 2 ≤ W ∧ W ≤ 5 ∧ 2 ≤ H ∧ H ≤ 5 ∧ n ≤ 6) (hv : s_vw T n W H g r) (hi : s_iv T n W H g) : w_ok n W H r ∧ w_cs T n g r := by
  obtain ⟨v1, v2, v3, v4, v5, v6, v7, v8, v9, v10, v11, v12⟩ := hv
  obtain ⟨i1, i2, i3, i4, i5⟩ := hi
  refine ⟨⟨hb, v2, v5, v6, fun p hp => ?_, fun p q hp hq hpq => ?_, fun p hp => ?_, fun p hp => ?_, fun p hp => ?_⟩, ⟨v1.trans v2.symm, v3.trans v5.symm, v4.trans v6.symm, v7.symm, v8.symm⟩, fun d a b => (v9 d a b).symm, fun p hp => ⟨(v10 p hp).symm, (v11 p hp).symm, (v12 p hp).symm⟩⟩
  · obtain ⟨C, hC, e⟩ := i1 p hp
    exact ⟨C, hC, (v10 p hp).trans e⟩
  · rw [v10 p hp, v10 q hq]
    exact i2 p q hp hq hpq
  · rw [v7, v10 p hp]
    exact i3 p hp
  · rw [v11 p hp]
    exact i4 p hp
  · rw [v12 p hp]
    exact i5 p hp
theorem w_tws {T n W H : Nat} {g r : qM} (h : w_ok n W H r) (hc : w_cs T n g r) : s_tw T n W H g := ⟨(w_vi h hc).1.1, (w_vi h hc).1.2.2.1, (w_vi h hc).1.2.2.2.1, (w_vi h hc).2⟩
/-- a class's cells with r in the town 35 -/
def w_emb (r : qM) : qM := fun a j => if a = 35 then (if j = 3 then r 70 27 else if j = 0 then r 70 2 else if j = 1 then r 70 3 else if j = 2 then r 71 20 else if j = 4 then r 71 25 else 0) else if a = 36 then r 75 j else if a = 37 then r 76 j else if a = 38 then r 77 j else if a = 39 then r 78 j else if a = 40 then r 71 (20 + j) else 0
theorem w_emb_cs (n : Nat) (r : qM) : w_cs 35 n (w_emb r) r := ⟨⟨rfl, rfl, rfl, rfl, rfl⟩, fun _ _ _ => rfl, fun _ _ => ⟨rfl, rfl, rfl⟩⟩
theorem w_cs_sm {T n : Nat} {g r r' : qM} (hc : w_cs T n g r) (hs : w_sm n r' r) : w_cs T n g r' := by
  obtain ⟨⟨c1, c2, c3, c4, c5⟩, c6, c7⟩ := hc
  obtain ⟨⟨s1, s2, s3, s4, s5⟩, s6, s7⟩ := hs
  exact ⟨⟨c1.trans s1.symm, c2.trans s2.symm, c3.trans s3.symm, c4.trans s4.symm, c5.trans s5.symm⟩, fun d a b => (c6 d a b).trans (s6 d a b).symm, fun p hp => ⟨(c7 p hp).1.trans (s7 p hp).1.symm, (c7 p hp).2.1.trans (s7 p hp).2.1.symm, (c7 p hp).2.2.trans (s7 p hp).2.2.symm⟩⟩
theorem w_sm_cs {T n : Nat} {g r r' : qM} (h1 : w_cs T n g r) (h2 : w_cs T n g r') : w_sm n r' r := by
  obtain ⟨⟨c1, c2, c3, c4, c5⟩, c6, c7⟩ := h1
  obtain ⟨⟨s1, s2, s3, s4, s5⟩, s6, s7⟩ := h2
  exact ⟨⟨s1.symm.trans c1, s2.symm.trans c2, s3.symm.trans c3, s4.symm.trans c4, s5.symm.trans c5⟩, fun d a b => (s6 d a b).symm.trans (c6 d a b), fun p hp => ⟨(s7 p hp).1.symm.trans (c7 p hp).1, (s7 p hp).2.1.symm.trans (c7 p hp).2.1, (s7 p hp).2.2.symm.trans (c7 p hp).2.2⟩⟩
theorem w_sm_rfl (n : Nat) (r : qM) : w_sm n r r := ⟨⟨rfl, rfl, rfl, rfl, rfl⟩, fun _ _ _ => rfl, fun _ _ => ⟨rfl, rfl, rfl⟩⟩
theorem w_ok_sm {n W H : Nat} {g r : qM} (h : w_ok n W H r) (hs : w_sm n g r) : w_ok n W H g := by
  have hv := w_vi h (w_emb_cs n r)
  have hc := w_cs_sm (w_emb_cs n r) hs
  obtain ⟨v1, v2, v3, v4, v5, v6, v7, v8, v9, v10, v11, v12⟩ := hv.1
  obtain ⟨⟨c1, c2, c3, c4, c5⟩, c6, c7⟩ := hc
  exact (w_iv h.1 ⟨v1, c1.symm.trans v1, v3, v4, c2.symm.trans v3, c3.symm.trans v4, c4.symm, c5.symm, fun d a b => (c6 d a b).symm, fun p hp => (c7 p hp).1.symm, fun p hp => (c7 p hp).2.1.symm, fun p hp => (c7 p hp).2.2.symm⟩ hv.2).1
/-! frames of the STEPS -/
theorem s_step_g {T n : Nat} {g : qM} {b : Nat} (h1 : b < 28 ∨ 33 < b) (h2 : b ≠ T ∧ b ≠ T + 1 ∧ b ≠ T + 2) : s_step T n g b = g b := by
  funext j
  unfold s_step
  rw [q_up_ne h2.1]
  show (if b = T + 2 then _ else if b = 28 then _ else s_move T n (s_wg T n g) b j) = _
  rw [if_neg h2.2.2, if_neg (by omega)]
  show (if b = T + 1 then _ else if b = 29 then _ else if b = 30 then _ else if b = 28 then _ else s_wg T n g b j) = _
  rw [if_neg h2.2.1, if_neg (by omega), if_neg (by omega), if_neg (by omega)]
  show (if b = 33 then _ else s_H (g T 0) (g (T + 1)) (g (T + 2)) (g (T + 5)) n g b j) = _
  rw [if_neg (by omega)]
  show (if b = 31 then _ else if b = 32 then _ else s_W1 (g T 0) (g (T + 1)) n g b j) = _
  rw [if_neg (by omega), if_neg (by omega)]
  show (if b = 29 then _ else if b = 30 then _ else if b = 31 then _ else if b = 32 then _ else g b j) = _
  rw [if_neg (by omega), if_neg (by omega), if_neg (by omega), if_neg (by omega)]
theorem s_step_35 {n : Nat} {g : qM} : w_fc g (s_step 35 n g) := fun b hb => s_step_g (by omega) (by omega)
theorem s_tss_35 {n : Nat} : ∀ k g, w_fc g (s_tss 35 n k g)
  | 0, g => w_fc_rfl g
  | k + 1, g => by
    unfold s_tss
    split
    · exact s_step_35
    · exact w_fc.trans s_step_35 (s_tss_35 k _)
theorem s_rst_g {n : Nat} {g : qM} {b : Nat} (h : b ≠ 75 ∧ b ≠ 76 ∧ b ≠ 79 ∧ b ≠ 80 ∧ b ≠ 81) : s_rst n g b = g b := by
  funext j
  show (if b = 76 then _ else s_r3 n g b j) = _
  rw [if_neg h.2.1]
  show (if b = 81 then _ else s_r2 n g b j) = _
  rw [if_neg h.2.2.2.2]
  show (if b = 75 then _ else if b = 80 then _ else s_r1 n g b j) = _
  rw [if_neg h.1, if_neg h.2.2.2.1]
  show (if b = 79 then _ else g b j) = _
  rw [if_neg h.2.2.1]
theorem s_rst_fr {n : Nat} {g : qM} : w_fr g (s_rst n g) := ⟨fun b hb => s_rst_g (by omega), fun j _ => by rw [s_rst_g (by omega)]⟩
theorem s_rit_g {n : Nat} {b : Nat} (h : b ≠ 75 ∧ b ≠ 76 ∧ b ≠ 79 ∧ b ≠ 80 ∧ b ≠ 81) : ∀ k g, s_rit n k g b = g b
  | 0, g => rfl
  | k + 1, g => (s_rit_g h k (s_rst n g)).trans (s_rst_g h)
theorem s_start_fr {g : qM} : w_fr g (s_start g) := ⟨fun b hb => by
  funext j
  show (if b = 70 then _ else if b = 75 then _ else if b = 76 then _ else if b = 77 then _ else if b = 78 then _ else g b j) = _
  rw [if_neg (by omega), if_neg (by omega), if_neg (by omega), if_neg (by omega), if_neg (by omega)], fun j hj => by
  show (if j = 27 then _ else g 70 j) = _
  rw [if_neg hj]⟩
/-! a STEP of the class beside a STEP of r -/
theorem w_step35 {n W H : Nat} {g r : qM} (h : w_ok n W H r) (hc : w_cs 35 n g r) : w_ok n W H (s_rst n r) ∧ w_cs 35 n (s_step 35 n g) (s_rst n r) ∧ (∀ p, p < n → s_step 35 n g 33 p = s_rst n r 79 p) ∧ (∀ p, p < n → (s_bit (s_step 35 n g 28 5) (Int32.ofNat p) = 0 ↔ s_rst n r 80 p = 4) ∧ (s_rst n r 80 p = 4 ∨ s_rst n r 80 p = s_rst n r 79 p)) ∧ ((s_step 35 n g 28 5 = 0 ∧ s_step 35 n g 28 6 = 0) ↔ s_ran n r = 0) := by
  obtain ⟨hv, hi⟩ := w_vi h hc
  obtain ⟨a, b, c, d, e⟩ := s_same_35 h.1.1 h.1.2.1 h.1.2.2.1 h.1.2.2.2.1 h.1.2.2.2.2 hv hi
  have hw := w_iv (T := 35) h.1 a b
  exact ⟨hw.1, hw.2, c, d, e⟩
theorem w_step20 {n W H : Nat} {g r : qM} (h : w_ok n W H r) (hc : w_cs 20 n g r) : w_ok n W H (s_rst n r) ∧ w_cs 20 n (s_step 20 n g) (s_rst n r) := by
  obtain ⟨hv, hi⟩ := w_vi h hc
  obtain ⟨a, b, c, d, e⟩ := s_same_20 h.1.1 h.1.2.1 h.1.2.2.1 h.1.2.2.2.1 h.1.2.2.2.2 hv hi
  have hw := w_iv (T := 20) h.1 a b
  exact ⟨hw.1, hw.2⟩
theorem w_ok_rst {n W H : Nat} {r : qM} (h : w_ok n W H r) : w_ok n W H (s_rst n r) := (w_step35 h (w_emb_cs n r)).1
/-- a STEP of the reference beside a STEP of r -/
theorem w_sm_rst {n W H : Nat} {g r : qM} (h : w_ok n W H r) (hs : w_sm n g r) : w_sm n (s_rst n g) (s_rst n r) ∧ (∀ p, p < n → s_rst n g 79 p = s_rst n r 79 p ∧ s_rst n g 80 p = s_rst n r 80 p) ∧ (s_ran n g = 0 ↔ s_ran n r = 0) := by
  have h1 := w_step35 h (w_emb_cs n r)
  have h2 := w_step35 (w_ok_sm h hs) (w_cs_sm (w_emb_cs n r) hs)
  refine ⟨w_sm_cs h1.2.1 h2.2.1, fun p hp => ?_, h2.2.2.2.2.symm.trans h1.2.2.2.2⟩
  have e := (h2.2.2.1 p hp).symm.trans (h1.2.2.1 p hp)
  refine ⟨e, ?_⟩
  have a1 := h1.2.2.2.1 p hp
  have a2 := h2.2.2.2.1 p hp
  by_cases z : s_rst n r 80 p = 4
  · rw [z]
    exact a2.1.mp (a1.1.mpr z)
  · have z2 : ¬ s_rst n g 80 p = 4 := fun y => z (a1.1.mp (a2.1.mpr y))
    rcases a1.2 with b1 | b1
    · exact absurd b1 z
    · rcases a2.2 with b2 | b2
      · exact absurd b2 z2
      · rw [b1, b2, e]
theorem w_ok_rit {n W H : Nat} : ∀ k r, w_ok n W H r → w_ok n W H (s_rit n k r)
  | 0, _, h => h
  | k + 1, r, h => w_ok_rit k (s_rst n r) (w_ok_rst h)
theorem w_sm_rit {n W H : Nat} : ∀ k g r, w_ok n W H r → w_sm n g r → w_sm n (s_rit n k g) (s_rit n k r)
  | 0, _, _, _, h => h
  | k + 1, g, r, h, hs => w_sm_rit k (s_rst n g) (s_rst n r) (w_ok_rst h) (w_sm_rst h hs).1
/-- STEPS of the class beside STEPS of r -/
theorem w_tss35 {n W H : Nat} {g r : qM} (h : w_ok n W H r) (hc : w_cs 35 n g r) (k : Nat) : w_cs 35 n (s_tss 35 n k g) (s_rit n k r) := by
  obtain ⟨hv, hi⟩ := w_vi h hc
  obtain ⟨a, b⟩ := s_steps_35 h.1.1 h.1.2.1 h.1.2.2.1 h.1.2.2.2.1 h.1.2.2.2.2 k g r hv hi
  exact (w_iv h.1 a b).2
theorem w_tss20 {n W H : Nat} {g r : qM} (h : w_ok n W H r) (hc : w_cs 20 n g r) (k : Nat) : w_cs 20 n (s_tss 20 n k g) (s_rit n k r) := by
  obtain ⟨hv, hi⟩ := w_vi h hc
  obtain ⟨a, b⟩ := s_steps_20 h.1.1 h.1.2.1 h.1.2.2.1 h.1.2.2.2.1 h.1.2.2.2.2 k g r hv hi
  exact (w_iv h.1 a b).2
theorem s_tss_go {T n : Nat} (h : T = 20 ∨ T = 35) : ∀ k g, s_tss T n k g (T + 4) = g (T + 4)
  | 0, _ => rfl
  | k + 1, g => by
    unfold s_tss
    split
    · exact s_step_g (by omega) (by omega)
    · exact (s_tss_go h k _).trans (s_step_g (by omega) (by omega))
/-! contracts beside r -/
theorem c_st35 {n W H : Nat} {g r : qM} (u : qW) (h : w_ok n W H r) (hc : w_cs 35 n g r) : q_BS 68 [.ref 28, .ref 35] g u (none, s_step 35 n g, u) := b_st35 u h.1.1 h.1.2.1 h.1.2.2.1 h.1.2.2.2.1 h.1.2.2.2.2 (w_tws h hc)
theorem c_tss35 {n W H m : Nat} {g r : qM} (u : qW) (h : w_ok n W H r) (hc : w_cs 35 n g r) (hm : m ≤ 60) : q_BS 76 [.ref 28, .ref 35, .int (Int32.ofNat m)] g u (none, q_up (s_tss 35 n m g) 35 5 (g 35 5 + Int32.ofNat m), u) := b_tss35 u h.1.1 h.1.2.1 h.1.2.2.1 h.1.2.2.2.1 h.1.2.2.2.2 hm (w_tws h hc)
theorem c_tss20 {n W H m : Nat} {g r : qM} (u : qW) (h : w_ok n W H r) (hc : w_cs 20 n g r) (hm : m ≤ 60) : q_BS 76 [.ref 28, .ref 20, .int (Int32.ofNat m)] g u (none, q_up (s_tss 20 n m g) 20 5 (g 20 5 + Int32.ofNat m), u) := b_tss20 u h.1.1 h.1.2.1 h.1.2.2.1 h.1.2.2.2.1 h.1.2.2.2.2 hm (w_tws h hc)
theorem c_weigh20 {n W H : Nat} {g r : qM} (u : qW) (h : w_ok n W H r) (hc : w_cs 20 n g r) : q_BS 58 [.ref 28, .ref 20] g u (none, s_wg 20 n g, u) := b_weigh20 g u (w_tws h hc).1 h.1.2.2.2.2 (s_tw_far h.1.1 h.1.2.1 h.1.2.2.2.1 (w_tws h hc)).1 (s_tw_far h.1.1 h.1.2.1 h.1.2.2.2.1 (w_tws h hc)).2
theorem w_up35 {n : Nat} {g r : qM} {x : Int32} (hc : w_cs 35 n g r) : w_cs 35 n (q_up g 35 5 x) r := hc
theorem w_up20 {n : Nat} {g r : qM} {x : Int32} (hc : w_cs 20 n g r) : w_cs 20 n (q_up g 20 5 x) r := hc
theorem w_w0 {n W H : Nat} {g r : qM} (h : w_ok n W H r) (hs : w_sm n g r) : g 70 27 = Int32.ofNat n ∧ n ≤ 6 ∧ g 70 2 ≠ 0 := by
  refine ⟨hs.1.1.trans h.2.1, h.1.2.2.2.2, fun z => ?_⟩
  rw [hs.1.2.1, h.2.2.1] at z
  have h1 := (q_eq (i := W) (j := 0) (by have := h.1.2.1; omega) (by omega)).mp z
  have := h.1.1
  omega
theorem c_rst {n W H : Nat} {g r : qM} (u : qW) (h : w_ok n W H r) (hs : w_sm n g r) : q_BS 191 [.ref 70] g u (some (.int (s_ran n g)), s_rst n g, u) := b_rsteps g u (w_w0 h hs).1 (w_w0 h hs).2.1 (w_w0 h hs).2.2
/-- the answer of one method is one -/
theorem q_BS_one {M : Nat} {as : List Value} {g : qM} {u : qW} {R R' : Option Value × qM × qW} (h1 : q_BS M as g u R) (h2 : q_BS M as g u R') : R = R' := by
  obtain ⟨F, hF⟩ := h1
  obtain ⟨F', hF'⟩ := h2
  have a := hF (F + F') (F + F') (by omega) (by omega)
  rw [hF' (F + F') (F + F') (by omega) (by omega)] at a
  exact (Option.some.inj a).symm
