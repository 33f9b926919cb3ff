/-! A STEP is alike on both sides. -/
theorem s_rm_cg {w h wl : Int32} {wy wy' : Nat → Int32} {n : Nat} : ∀ k i c wt an, (∀ j, i ≤ j → j < i + k → wy j = wy' j) → s_rm w h wl wy n k i c wt an = s_rm w h wl wy' n k i c wt an
  | 0, _, _, _, _, _ => rfl
  | k + 1, i, c, wt, an, hh => by
    have e := hh i (Nat.le_refl _) (by omega)
    have ih := fun c wt an => s_rm_cg (w := w) (h := h) (wl := wl) (n := n) k (i + 1) c wt an (fun j h1 h2 => hh j (by omega) (by omega))
    unfold s_rm
    rw [e, ih, ih]
theorem s_wl_cg {c c' : Nat → Int32} {x : Int32} : ∀ k i f, (∀ j, i ≤ j → j < i + k → c j = c' j) → s_wl c x k i f = s_wl c' x k i f
  | 0, _, _, _ => rfl
  | k + 1, i, f, hh => by
    unfold s_wl
    rw [hh i (Nat.le_refl _) (by omega), s_wl_cg k (i + 1) _ (fun j h1 h2 => hh j (by omega) (by omega))]
theorem s_cn_cg {w h : Int32} {c c' : Nat → Int32} {n p : Nat} (hc : ∀ j, j < n → c j = c' j) (hp : p < n) : s_cn w h c n p = s_cn w h c' n p := by
  have e : ∀ x, s_oc c n x = s_oc c' n x := fun x => by
    unfold s_oc
    rw [s_wl_cg n 0 _ (fun j _ h2 => hc j (by omega))]
  unfold s_cn
  rw [hc p hp, e, e, e, e]
theorem s_tk_bits {c : Nat → Int32} {N : Nat} (hN : N < 25) : ∀ k i t, (∀ q, i ≤ q → q < i + k → ∃ C, C < 25 ∧ c q = Int32.ofNat C) → (s_bit (s_tk c k i t) (Int32.ofNat N) = 0 ↔ s_bit t (Int32.ofNat N) = 0 ∧ ∀ q, i ≤ q → q < i + k → c q ≠ Int32.ofNat N)
  | 0, i, t, _ => ⟨fun h => ⟨h, fun q h1 h2 => by omega⟩, fun h => h.1⟩
  | k + 1, i, t, hc => by
    obtain ⟨C, hC, ec⟩ := hc i (Nat.le_refl _) (by omega)
    unfold s_tk
    rw [s_tk_bits hN k (i + 1) _ (fun q h1 h2 => hc q (by omega) (by omega)), ec, s_bit_or hC hN]
    constructor
    · intro ⟨⟨h1, h2⟩, h3⟩
      refine ⟨h1, fun q a b => ?_⟩
      by_cases e : q = i
      · rw [e, ec]
        exact fun z => h2 ((q_eq (by omega) (by omega)).mp z).symm
      · exact h3 q (by omega) (by omega)
    · intro ⟨h1, h2⟩
      refine ⟨⟨h1, fun z => h2 i (Nat.le_refl _) (by omega) (by rw [ec, z])⟩, fun q a b => h2 q (by omega) (by omega)⟩
/-- both sides tell of one town -/
def s_vw (T n W H : Nat) (g r : qM) : Prop := g T 3 = Int32.ofNat n ∧ r 70 27 = Int32.ofNat n ∧ g T 0 = Int32.ofNat W ∧ g T 1 = Int32.ofNat H ∧ r 70 2 = Int32.ofNat W ∧ r 70 3 = Int32.ofNat H ∧ r 71 20 = g T 2 ∧ r 71 25 = g T 4 ∧ (∀ d, 1 ≤ d → d ≤ 4 → r 71 (20 + d) = g (T + 5) d) ∧ (∀ p, p < n → r 75 p = g (T + 1) p) ∧ (∀ p, p < n → r 76 p = g (T + 2) p) ∧ (∀ p, p < n → r 77 p = g (T + 3) p)
/-- what holds of a town -/
def s_iv (T n W H : Nat) (g : qM) : Prop := (∀ p, p < n → ∃ C, C < W * H ∧ g (T + 1) p = Int32.ofNat C) ∧ (∀ p q, p < n → q < n → p ≠ q → g (T + 1) p ≠ g (T + 1) q) ∧ (∀ p, p < n → s_bit (g T 2) (g (T + 1) p) = 0) ∧ (∀ p, p < n → g (T + 2) p = 0 ∨ g (T + 2) p = 1 ∨ g (T + 2) p = 2 ∨ g (T + 2) p = 3) ∧ (∀ p, p < n → g (T + 3) p = 0 ∨ g (T + 3) p = 1)
theorem s_y5 {x : Int32} (h : x = 0 ∨ x = 1 ∨ x = 2 ∨ x = 3 ∨ x = 4) : ∃ y, y < 5 ∧ x = Int32.ofNat y := by
  rcases h with h | h | h | h | h
  · exact ⟨0, by omega, h⟩
  · exact ⟨1, by omega, h⟩
  · exact ⟨2, by omega, h⟩
  · exact ⟨3, by omega, h⟩
  · exact ⟨4, by omega, h⟩
theorem s_rgw {W : Nat} (hW : 2 ≤ W) (hW5 : W ≤ 5) : s_rg (Int32.ofNat W) 2 5 := ⟨by rw [q_nat (by omega)]; omega, by rw [q_nat (by omega)]; omega⟩
theorem s_rgc {C n : Nat} (h : C < n) (hn : n ≤ 25) : s_rg (Int32.ofNat C) 0 24 := ⟨by rw [q_nat (by omega)]; omega, by rw [q_nat (by omega)]; omega⟩
theorem s_rw_cg {w : Int32} {c c' mo mo' st st' pl : Nat → Int32} {n p : Nat} (h6 : n ≤ 6) (hp : p < n) (hc : ∀ q, q < n → c q = c' q) (hm : ∀ q, q < n → mo q = mo' q) (hs : ∀ q, q < n → st q = st' q) : s_rw w c mo st pl n p = s_rw w c' mo' st' pl n p := by
  have e : ∀ so, s_rf w c mo pl n so p = s_rf w c' mo' pl n so p := fun so => by
    unfold s_rf
    rw [s_sf_cg n 0 (fun q _ hq => by
      have hq : q < n := by omega
      unfold s_rt
      rw [hc q hq, hc p hp, hm q hq, hm p hp])]
    rfl
  unfold s_rw
  rw [hs p hp, e, e]
theorem s_same_20 {n W H : Nat} {g r : qM} (hW : 2 ≤ W) (hW5 : W ≤ 5) (hH : 2 ≤ H) (hH5 : H ≤ 5) (h6 : n ≤ 6) (hv : s_vw 20 n W H g r) (hi : s_iv 20 n W H g) : s_vw 20 n W H (s_step 20 n g) (s_rst n r) ∧ s_iv 20 n W H (s_step 20 n g) ∧ (∀ p, p < n → s_step 20 n g 33 p = s_rst n r 79 p) ∧ (∀ p, p < n → (s_bit (s_step 20 n g 28 5) (Int32.ofNat p) = 0 ↔ s_rst n r 80 p = 4) ∧ (s_rst n r 80 p = 4 ∨ s_rst n r 80 p = s_rst n r 79 p)) ∧ ((s_step 20 n g 28 5 = 0 ∧ s_step 20 n g 28 6 = 0) ↔ s_ran n r = 0) := by
  obtain ⟨v1, v2, v3, v4, v5, v6, v7, v8, v9, v10, v11, v12⟩ := hv
  obtain ⟨i1, i2, i3, i4, i5⟩ := hi
  have hWH : W * H ≤ 25 := Nat.le_trans (Nat.mul_le_mul hW5 hH5) (Nat.le_refl 25)
  have rw5 : ∀ p, s_rw (r 70 2) (r 75) (r 76) (r 77) (r 71) n p = 0 ∨ s_rw (r 70 2) (r 75) (r 76) (r 77) (r 71) n p = 1 ∨ s_rw (r 70 2) (r 75) (r 76) (r 77) (r 71) n p = 2 ∨ s_rw (r 70 2) (r 75) (r 76) (r 77) (r 71) n p = 3 ∨ s_rw (r 70 2) (r 75) (r 76) (r 77) (r 71) n p = 4 := fun p => s_rway_5 _ _
  -- the wishes
  have wy0 : ∀ p, p < n → s_wg 20 n g 33 p = s_wf (g 23) (s_H (g 20 0) (g 21) (g 22) (g 25) n g) p := fun p hp => if_pos hp
  have wy1 : ∀ p, p < n → s_r1 n r 79 p = s_rw (r 70 2) (r 75) (r 76) (r 77) (r 71) n p := fun p hp => if_pos hp
  have wy : ∀ p, p < n → s_wg 20 n g 33 p = s_r1 n r 79 p := fun p hp => by
    rw [wy0 p hp, wy1 p hp, s_wish h6 (by rw [v3]; exact s_rgw hW hW5) (fun q hq => by
      obtain ⟨C, hC, ec⟩ := i1 q hq
      rw [ec]
      exact s_rgc hC hWH) i5 v9 hp, v3, ← v5]
    exact s_rw_cg h6 hp (fun q hq => (v10 q hq).symm) (fun q hq => (v11 q hq).symm) (fun q hq => (v12 q hq).symm)
  have hy : ∀ p, p < n → ∃ y, y < 5 ∧ s_wg 20 n g 33 p = Int32.ofNat y := fun p hp => by
    rw [wy0 p hp]
    exact s_y5 (s_wf_5 _ _ _)
  -- the moves
  have hr0 : s_rel W H n (g 20 2) (s_wg 20 n g 33) 0 (g 21) (s_wg 20 n g 29) (s_wg 20 n g 30) (s_tk (g 21) n 0 (g 20 2)) 0 (r 75) (r 80) 0 := by
    refine ⟨v10, fun p hp => ?_, fun p hp => ?_, i1, i2, i3, fun N hN => ?_, fun j hj => ?_, fun j hj => by omega, ⟨fun _ => rfl, fun _ => rfl⟩⟩
    · rw [← v3]
      exact if_pos hp
    · rw [← v3]
      exact if_pos hp
    · rw [s_tk_bits hN n 0 _ (fun q _ hq => by
        obtain ⟨C, hC, ec⟩ := i1 q (by omega)
        exact ⟨C, by omega, ec⟩)]
      exact ⟨fun z => ⟨z.1, fun q hq => z.2 q (Nat.zero_le _) (by omega)⟩, fun z => ⟨z.1, fun q _ hq => z.2 q (by omega)⟩⟩
    · exact ⟨fun _ z => by omega, fun _ => s_bit_0 _⟩
  have hm := s_moves hW hW5 hH hH5 h6 hy n 0 _ _ _ _ _ _ _ _ (by omega) hr0
  rw [s_rm_cg n 0 _ _ _ (fun j _ hj => wy j (by omega))] at hm
  rw [show s_rm (Int32.ofNat W) (Int32.ofNat H) (g 20 2) (s_r1 n r 79) n n 0 (r 75) (r 80) 0 = s_rS n r by unfold s_rS; rw [v5, v6, v7]] at hm
  obtain ⟨m1, m2, m3, m4, m5, m6, m7, m8, m9, m10⟩ := hm
  -- the class's cells behind
  have hS : s_mv (s_wg 20 n g 20 0) (s_wg 20 n g 20 1) (s_wg 20 n g 33) n 0 (s_wg 20 n g 21) (s_wg 20 n g 29) (s_wg 20 n g 30) (s_tk (s_wg 20 n g 21) n 0 (s_wg 20 n g 20 2)) 0 = s_mv (Int32.ofNat W) (Int32.ofNat H) (s_wg 20 n g 33) n 0 (g 21) (s_wg 20 n g 29) (s_wg 20 n g 30) (s_tk (g 21) n 0 (g 20 2)) 0 := by
    show s_mv (g 20 0) (g 20 1) _ n 0 (g 21) _ _ _ 0 = _
    rw [v3, v4]
    rfl
  generalize hSS : s_mv (Int32.ofNat W) (Int32.ofNat H) (s_wg 20 n g 33) n 0 (g 21) (s_wg 20 n g 29) (s_wg 20 n g 30) (s_tk (g 21) n 0 (g 20 2)) 0 = S at hS m1 m2 m3 m4 m5 m6 m7 m8 m9 m10
  have hmove : s_move 20 n (s_wg 20 n g) = s_M4 21 S.1 S.2.1 S.2.2.1 S.2.2.2.2 (s_wg 20 n g) := by
    unfold s_move
    rw [hS]
  have hcnt : ∀ p, p < n → s_nx S.2.1 S.2.2.1 p n 0 0 = s_cn (r 70 2) (r 70 3) (s_rS n r).1 n p := fun p hp => by
    rw [s_count hW hW5 hH hH5 h6 m2 m3 m4 m5 hp, v5, v6]
    exact s_cn_cg (fun j hj => (m1 j hj).symm) hp
  have hstep : s_step 20 n g = q_up (s_flip 20 n (s_M4 21 S.1 S.2.1 S.2.2.1 S.2.2.2.2 (s_wg 20 n g))) 20 5 (g 20 5 + 1) := by
    unfold s_step
    rw [hmove]
  -- who flips
  have hfl : ∀ p, p < n → s_r3 n r 81 p = if s_pr (r 70 2) (r 70 3) (r 71 25) (s_rS n r).1 (r 76) n p = 0 then (0 : Int32) else 1 := fun p hp => if_pos hp
  have hpr : ∀ p, p < n → (s_r3 n r 81 p = 1 ↔ ¬ g 20 4 ≤ 0 ∧ (¬ g 22 p = 0 ∧ ¬ s_nx S.2.1 S.2.2.1 p n 0 0 < g 20 4)) := fun p hp => by
    rw [hfl p hp, hcnt p hp, ← v8]
    unfold s_pr
    rw [v11 p hp]
    have hz : g 22 p ≤ 0 ↔ g 22 p = 0 := by
      rcases i4 p hp with e | e | e | e <;> (rw [e]; decide)
    by_cases h1 : g 22 p = 0
    · rw [if_pos (hz.mpr h1), if_pos rfl]
      exact ⟨fun z => absurd z (by decide), fun z => absurd h1 z.2.1⟩
    · rw [if_neg (fun z => h1 (hz.mp z))]
      by_cases h2 : r 71 25 ≤ 0
      · rw [if_pos h2, if_pos rfl]
        exact ⟨fun z => absurd z (by decide), fun z => absurd h2 z.1⟩
      · rw [if_neg h2]
        by_cases h3 : s_cn (r 70 2) (r 70 3) (s_rS n r).1 n p < r 71 25
        · rw [if_pos h3, if_pos rfl]
          exact ⟨fun z => absurd z (by decide), fun z => absurd h3 z.2.2⟩
        · rw [if_neg h3, if_neg (by decide)]
          exact ⟨fun _ => ⟨h2, h1, h3⟩, fun _ => rfl⟩
  have hmood : ∀ p, p < n → s_step 20 n g 22 p = if s_r3 n r 81 p = 1 then s_fo (g 22 p) else g 22 p := fun p hp => by
    rw [hstep]
    show (if g 20 4 ≤ 0 then g 22 else (s_fl (g 20 4) S.2.1 S.2.2.1 n n 0 (g 22) 0).1) p = _
    by_cases h1 : g 20 4 ≤ 0
    · rw [if_pos h1, if_neg (fun z => ((hpr p hp).mp z).1 h1)]
    · rw [if_neg h1, s_fl_1]
      by_cases h2 : ¬ g 22 p = 0 ∧ ¬ s_nx S.2.1 S.2.2.1 p n 0 0 < g 20 4
      · rw [if_pos ⟨by omega, h2⟩, if_pos ((hpr p hp).mpr ⟨h1, h2⟩)]
      · rw [if_neg (fun z => h2 z.2), if_neg (fun z => h2 ((hpr p hp).mp z).2)]
  have hrm : ∀ p, p < n → s_rst n r 76 p = if s_r3 n r 81 p = 1 then s_fd (r 76 p) else r 76 p := fun p hp => if_pos hp
  have hc : ∀ p, p < n → s_step 20 n g 21 p = S.1 p := fun p hp => by
    rw [hstep]
    rfl
  refine ⟨⟨?_, ?_, ?_, ?_, ?_, ?_, ?_, ?_, ?_, ?_, ?_, ?_⟩, ⟨?_, ?_, ?_, ?_, ?_⟩, ?_, ?_, ?_⟩
  · exact v1
  · exact v2
  · exact v3
  · exact v4
  · exact v5
  · exact v6
  · exact v7
  · exact v8
  · exact v9
  · exact fun p hp => by
      rw [hc p hp]
      exact m1 p hp
  · exact fun p hp => by
      rw [hrm p hp, hmood p hp, v11 p hp, s_fo_fd (i4 p hp)]
  · exact v12
  · exact fun p hp => by
      rw [hc p hp]
      exact m4 p hp
  · exact fun p q hp hq hpq => by
      rw [hc p hp, hc q hq]
      exact m5 p q hp hq hpq
  · exact fun p hp => by
      rw [hc p hp]
      exact m6 p hp
  · exact fun p hp => by
      rw [hmood p hp]
      split
      · rw [s_fo_fd (i4 p hp)]
        exact s_fd_4 (i4 p hp)
      · exact i4 p hp
  · exact i5
  · exact fun p hp => by
      rw [hstep]
      exact wy p hp
  · exact fun p hp => by
      refine ⟨?_, ?_⟩
      · rw [hstep]
        show s_bit S.2.2.2.2 (Int32.ofNat p) = 0 ↔ (s_rS n r).2.1 p = 4
        rw [m8 p (by omega)]
        constructor
        · intro z
          by_cases e : (s_rS n r).2.1 p = 4
          · exact e
          · exact absurd ⟨hp, e⟩ z
        · intro z y
          exact y.2 z
      · show (s_rS n r).2.1 p = 4 ∨ (s_rS n r).2.1 p = s_r1 n r 79 p
        rcases m9 p hp with e | e
        · exact Or.inl e
        · exact Or.inr (e.trans (wy p hp))
  · unfold s_ran
    rw [s_ra_0 n 0 _, hstep]
    show (S.2.2.2.2 = 0 ∧ (if g 20 4 ≤ 0 then (0 : Int32) else (s_fl (g 20 4) S.2.1 S.2.2.1 n n 0 (g 22) 0).2) = 0) ↔ _
    rw [m10]
    refine and_congr Iff.rfl ?_
    by_cases h1 : g 20 4 ≤ 0
    · rw [if_pos h1]
      exact ⟨fun _ j _ hj z => ((hpr j (by omega)).mp z).1 h1, fun _ => rfl⟩
    · rw [if_neg h1, s_fl_2 n 0 _ _ (by omega)]
      exact ⟨fun z j a hj y => z.2 j a hj ((hpr j (by omega)).mp y).2, fun z => ⟨rfl, fun j a hj y => z j a hj ((hpr j (by omega)).mpr ⟨h1, y⟩)⟩⟩
theorem s_same_35 {n W H : Nat} {g r : qM} (hW : 2 ≤ W) (hW5 : W ≤ 5) (hH : 2 ≤ H) (hH5 : H ≤ 5) (h6 : n ≤ 6) (hv : s_vw 35 n W H g r) (hi : s_iv 35 n W H g) : s_vw 35 n W H (s_step 35 n g) (s_rst n r) ∧ s_iv 35 n W H (s_step 35 n g) ∧ (∀ p, p < n → s_step 35 n g 33 p = s_rst n r 79 p) ∧ (∀ p, p < n → (s_bit (s_step 35 n g 28 5) (Int32.ofNat p) = 0 ↔ s_rst n r 80 p = 4) ∧ (s_rst n r 80 p = 4 ∨ s_rst n r 80 p = s_rst n r 79 p)) ∧ ((s_step 35 n g 28 5 = 0 ∧ s_step 35 n g 28 6 = 0) ↔ s_ran n r = 0) := by
  obtain ⟨v1, v2, v3, v4, v5, v6, v7, v8, v9, v10, v11, v12⟩ := hv
  obtain ⟨i1, i2, i3, i4, i5⟩ := hi
  have hWH : W * H ≤ 25 := Nat.le_trans (Nat.mul_le_mul hW5 hH5) (Nat.le_refl 25)
  have rw5 : ∀ p, s_rw (r 70 2) (r 75) (r 76) (r 77) (r 71) n p = 0 ∨ s_rw (r 70 2) (r 75) (r 76) (r 77) (r 71) n p = 1 ∨ s_rw (r 70 2) (r 75) (r 76) (r 77) (r 71) n p = 2 ∨ s_rw (r 70 2) (r 75) (r 76) (r 77) (r 71) n p = 3 ∨ s_rw (r 70 2) (r 75) (r 76) (r 77) (r 71) n p = 4 := fun p => s_rway_5 _ _
  -- the wishes
  have wy0 : ∀ p, p < n → s_wg 35 n g 33 p = s_wf (g 38) (s_H (g 35 0) (g 36) (g 37) (g 40) n g) p := fun p hp => if_pos hp
  have wy1 : ∀ p, p < n → s_r1 n r 79 p = s_rw (r 70 2) (r 75) (r 76) (r 77) (r 71) n p := fun p hp => if_pos hp
  have wy : ∀ p, p < n → s_wg 35 n g 33 p = s_r1 n r 79 p := fun p hp => by
    rw [wy0 p hp, wy1 p hp, s_wish h6 (by rw [v3]; exact s_rgw hW hW5) (fun q hq => by
      obtain ⟨C, hC, ec⟩ := i1 q hq
      rw [ec]
      exact s_rgc hC hWH) i5 v9 hp, v3, ← v5]
    exact s_rw_cg h6 hp (fun q hq => (v10 q hq).symm) (fun q hq => (v11 q hq).symm) (fun q hq => (v12 q hq).symm)
  have hy : ∀ p, p < n → ∃ y, y < 5 ∧ s_wg 35 n g 33 p = Int32.ofNat y := fun p hp => by
    rw [wy0 p hp]
    exact s_y5 (s_wf_5 _ _ _)
  -- the moves
  have hr0 : s_rel W H n (g 35 2) (s_wg 35 n g 33) 0 (g 36) (s_wg 35 n g 29) (s_wg 35 n g 30) (s_tk (g 36) n 0 (g 35 2)) 0 (r 75) (r 80) 0 := by
    refine ⟨v10, fun p hp => ?_, fun p hp => ?_, i1, i2, i3, fun N hN => ?_, fun j hj => ?_, fun j hj => by omega, ⟨fun _ => rfl, fun _ => rfl⟩⟩
    · rw [← v3]
      exact if_pos hp
    · rw [← v3]
      exact if_pos hp
    · rw [s_tk_bits hN n 0 _ (fun q _ hq => by
        obtain ⟨C, hC, ec⟩ := i1 q (by omega)
        exact ⟨C, by omega, ec⟩)]
      exact ⟨fun z => ⟨z.1, fun q hq => z.2 q (Nat.zero_le _) (by omega)⟩, fun z => ⟨z.1, fun q _ hq => z.2 q (by omega)⟩⟩
    · exact ⟨fun _ z => by omega, fun _ => s_bit_0 _⟩
  have hm := s_moves hW hW5 hH hH5 h6 hy n 0 _ _ _ _ _ _ _ _ (by omega) hr0
  rw [s_rm_cg n 0 _ _ _ (fun j _ hj => wy j (by omega))] at hm
  rw [show s_rm (Int32.ofNat W) (Int32.ofNat H) (g 35 2) (s_r1 n r 79) n n 0 (r 75) (r 80) 0 = s_rS n r by unfold s_rS; rw [v5, v6, v7]] at hm
  obtain ⟨m1, m2, m3, m4, m5, m6, m7, m8, m9, m10⟩ := hm
  -- the class's cells behind
  have hS : s_mv (s_wg 35 n g 35 0) (s_wg 35 n g 35 1) (s_wg 35 n g 33) n 0 (s_wg 35 n g 36) (s_wg 35 n g 29) (s_wg 35 n g 30) (s_tk (s_wg 35 n g 36) n 0 (s_wg 35 n g 35 2)) 0 = s_mv (Int32.ofNat W) (Int32.ofNat H) (s_wg 35 n g 33) n 0 (g 36) (s_wg 35 n g 29) (s_wg 35 n g 30) (s_tk (g 36) n 0 (g 35 2)) 0 := by
    show s_mv (g 35 0) (g 35 1) _ n 0 (g 36) _ _ _ 0 = _
    rw [v3, v4]
    rfl
  generalize hSS : s_mv (Int32.ofNat W) (Int32.ofNat H) (s_wg 35 n g 33) n 0 (g 36) (s_wg 35 n g 29) (s_wg 35 n g 30) (s_tk (g 36) n 0 (g 35 2)) 0 = S at hS m1 m2 m3 m4 m5 m6 m7 m8 m9 m10
  have hmove : s_move 35 n (s_wg 35 n g) = s_M4 36 S.1 S.2.1 S.2.2.1 S.2.2.2.2 (s_wg 35 n g) := by
    unfold s_move
    rw [hS]
  have hcnt : ∀ p, p < n → s_nx S.2.1 S.2.2.1 p n 0 0 = s_cn (r 70 2) (r 70 3) (s_rS n r).1 n p := fun p hp => by
    rw [s_count hW hW5 hH hH5 h6 m2 m3 m4 m5 hp, v5, v6]
    exact s_cn_cg (fun j hj => (m1 j hj).symm) hp
  have hstep : s_step 35 n g = q_up (s_flip 35 n (s_M4 36 S.1 S.2.1 S.2.2.1 S.2.2.2.2 (s_wg 35 n g))) 35 5 (g 35 5 + 1) := by
    unfold s_step
    rw [hmove]
  -- who flips
  have hfl : ∀ p, p < n → s_r3 n r 81 p = if s_pr (r 70 2) (r 70 3) (r 71 25) (s_rS n r).1 (r 76) n p = 0 then (0 : Int32) else 1 := fun p hp => if_pos hp
  have hpr : ∀ p, p < n → (s_r3 n r 81 p = 1 ↔ ¬ g 35 4 ≤ 0 ∧ (¬ g 37 p = 0 ∧ ¬ s_nx S.2.1 S.2.2.1 p n 0 0 < g 35 4)) := fun p hp => by
    rw [hfl p hp, hcnt p hp, ← v8]
    unfold s_pr
    rw [v11 p hp]
    have hz : g 37 p ≤ 0 ↔ g 37 p = 0 := by
      rcases i4 p hp with e | e | e | e <;> (rw [e]; decide)
    by_cases h1 : g 37 p = 0
    · rw [if_pos (hz.mpr h1), if_pos rfl]
      exact ⟨fun z => absurd z (by decide), fun z => absurd h1 z.2.1⟩
    · rw [if_neg (fun z => h1 (hz.mp z))]
      by_cases h2 : r 71 25 ≤ 0
      · rw [if_pos h2, if_pos rfl]
        exact ⟨fun z => absurd z (by decide), fun z => absurd h2 z.1⟩
      · rw [if_neg h2]
        by_cases h3 : s_cn (r 70 2) (r 70 3) (s_rS n r).1 n p < r 71 25
        · rw [if_pos h3, if_pos rfl]
          exact ⟨fun z => absurd z (by decide), fun z => absurd h3 z.2.2⟩
        · rw [if_neg h3, if_neg (by decide)]
          exact ⟨fun _ => ⟨h2, h1, h3⟩, fun _ => rfl⟩
  have hmood : ∀ p, p < n → s_step 35 n g 37 p = if s_r3 n r 81 p = 1 then s_fo (g 37 p) else g 37 p := fun p hp => by
    rw [hstep]
    show (if g 35 4 ≤ 0 then g 37 else (s_fl (g 35 4) S.2.1 S.2.2.1 n n 0 (g 37) 0).1) p = _
    by_cases h1 : g 35 4 ≤ 0
    · rw [if_pos h1, if_neg (fun z => ((hpr p hp).mp z).1 h1)]
    · rw [if_neg h1, s_fl_1]
      by_cases h2 : ¬ g 37 p = 0 ∧ ¬ s_nx S.2.1 S.2.2.1 p n 0 0 < g 35 4
      · rw [if_pos ⟨by omega, h2⟩, if_pos ((hpr p hp).mpr ⟨h1, h2⟩)]
      · rw [if_neg (fun z => h2 z.2), if_neg (fun z => h2 ((hpr p hp).mp z).2)]
  have hrm : ∀ p, p < n → s_rst n r 76 p = if s_r3 n r 81 p = 1 then s_fd (r 76 p) else r 76 p := fun p hp => if_pos hp
  have hc : ∀ p, p < n → s_step 35 n g 36 p = S.1 p := fun p hp => by
    rw [hstep]
    rfl
  refine ⟨⟨?_, ?_, ?_, ?_, ?_, ?_, ?_, ?_, ?_, ?_, ?_, ?_⟩, ⟨?_, ?_, ?_, ?_, ?_⟩, ?_, ?_, ?_⟩
  · exact v1
  · exact v2
  · exact v3
  · exact v4
  · exact v5
  · exact v6
  · exact v7
  · exact v8
  · exact v9
  · exact fun p hp => by
      rw [hc p hp]
      exact m1 p hp
  · exact fun p hp => by
      rw [hrm p hp, hmood p hp, v11 p hp, s_fo_fd (i4 p hp)]
  · exact v12
  · exact fun p hp => by
      rw [hc p hp]
      exact m4 p hp
  · exact fun p q hp hq hpq => by
      rw [hc p hp, hc q hq]
      exact m5 p q hp hq hpq
  · exact fun p hp => by
      rw [hc p hp]
      exact m6 p hp
  · exact fun p hp => by
      rw [hmood p hp]
      split
      · rw [s_fo_fd (i4 p hp)]
        exact s_fd_4 (i4 p hp)
      · exact i4 p hp
  · exact i5
  · exact fun p hp => by
      rw [hstep]
      exact wy p hp
  · exact fun p hp => by
      refine ⟨?_, ?_⟩
      · rw [hstep]
        show s_bit S.2.2.2.2 (Int32.ofNat p) = 0 ↔ (s_rS n r).2.1 p = 4
        rw [m8 p (by omega)]
        constructor
        · intro z
          by_cases e : (s_rS n r).2.1 p = 4
          · exact e
          · exact absurd ⟨hp, e⟩ z
        · intro z y
          exact y.2 z
      · show (s_rS n r).2.1 p = 4 ∨ (s_rS n r).2.1 p = s_r1 n r 79 p
        rcases m9 p hp with e | e
        · exact Or.inl e
        · exact Or.inr (e.trans (wy p hp))
  · unfold s_ran
    rw [s_ra_0 n 0 _, hstep]
    show (S.2.2.2.2 = 0 ∧ (if g 35 4 ≤ 0 then (0 : Int32) else (s_fl (g 35 4) S.2.1 S.2.2.1 n n 0 (g 37) 0).2) = 0) ↔ _
    rw [m10]
    refine and_congr Iff.rfl ?_
    by_cases h1 : g 35 4 ≤ 0
    · rw [if_pos h1]
      exact ⟨fun _ j _ hj z => ((hpr j (by omega)).mp z).1 h1, fun _ => rfl⟩
    · rw [if_neg h1, s_fl_2 n 0 _ _ (by omega)]
      exact ⟨fun z j a hj y => z.2 j a hj ((hpr j (by omega)).mp y).2, fun z => ⟨rfl, fun j a hj y => z j a hj ((hpr j (by omega)).mpr ⟨h1, y⟩)⟩⟩
