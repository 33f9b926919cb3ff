/-! STEPS are alike, also where the class ends early. -/
def s_rit (n : Nat) : Nat → qM → qM
  | 0, r => r
  | k + 1, r => s_rit n k (s_rst n r)
theorem s_rit_s (n : Nat) : ∀ k r, s_rit n k (s_rst n r) = s_rst n (s_rit n k r)
  | 0, _ => rfl
  | k + 1, r => s_rit_s n k (s_rst n r)
theorem s_rm_1 {w h wl : Int32} {wy : Nat → Int32} {n : Nat} : ∀ k i c wt, (s_rm w h wl wy n k i c wt 1).2.2 = 1
  | 0, _, _, _ => rfl
  | k + 1, i, c, wt => by
    unfold s_rm
    split
    · exact s_rm_1 k (i + 1) _ _
    · split
      · exact s_rm_1 k (i + 1) _ _
      · exact s_rm_1 k (i + 1) _ _
theorem s_rm_0 {w h wl : Int32} {wy : Nat → Int32} {n : Nat} : ∀ k i c wt an, (s_rm w h wl wy n k i c wt an).2.2 = 0 → (s_rm w h wl wy n k i c wt an).1 = c
  | 0, _, _, _, _, _ => rfl
  | k + 1, i, c, wt, an, hz => by
    unfold s_rm at hz ⊢
    split
    · rename_i h1
      rw [if_pos h1] at hz
      exact s_rm_0 k (i + 1) _ _ _ hz
    · rename_i h1
      rw [if_neg h1] at hz
      split
      · rename_i h2
        rw [if_pos h2, s_rm_1] at hz
        exact absurd hz (by decide)
      · rename_i h2
        rw [if_neg h2] at hz
        exact s_rm_0 k (i + 1) _ _ _ hz
theorem s_rest_r {n : Nat} {r : qM} (h : s_ran n r = 0) : ∀ p, p < n → s_rst n r 75 p = r 75 p ∧ s_rst n r 76 p = r 76 p := by
  obtain ⟨h1, h2⟩ := (s_ra_0 n 0 _).mp h
  intro p hp
  refine ⟨?_, ?_⟩
  · show (s_rS n r).1 p = r 75 p
    rw [show (s_rS n r).1 = r 75 from s_rm_0 n 0 _ _ _ h1]
  · show (if p < n then (if s_r3 n r 81 p = 1 then s_fd (r 76 p) else r 76 p) else _) = r 76 p
    rw [if_pos hp, if_neg (h2 p (Nat.zero_le _) (by omega))]
theorem s_rest_20 {n W H : Nat} {g : qM} (hW : 2 ≤ W) (hW5 : W ≤ 5) (hH : 2 ≤ H) (hH5 : H ≤ 5) (h6 : n ≤ 6) (hi : s_iv 20 n W H g) (h0 : s_step 20 n g 28 5 = 0 ∧ s_step 20 n g 28 6 = 0) : ∀ k r, s_vw 20 n W H g r → s_vw 20 n W H g (s_rit n k r)
  | 0, r, hv => hv
  | k + 1, r, hv => by
    have hs := s_same_20 hW hW5 hH hH5 h6 hv hi
    have hr := s_rest_r (hs.2.2.2.2.mp h0)
    obtain ⟨v1, v2, v3, v4, v5, v6, v7, v8, v9, v10, v11, v12⟩ := hv
    exact s_rest_20 hW hW5 hH hH5 h6 hi h0 k (s_rst n r) ⟨v1, v2, v3, v4, v5, v6, v7, v8, v9, fun p hp => (hr p hp).1.trans (v10 p hp), fun p hp => (hr p hp).2.trans (v11 p hp), v12⟩
/-- k STEPS of the class, k STEPS of the reference -/
theorem s_steps_20 {n W H : Nat} (hW : 2 ≤ W) (hW5 : W ≤ 5) (hH : 2 ≤ H) (hH5 : H ≤ 5) (h6 : n ≤ 6) : ∀ k g r, s_vw 20 n W H g r → s_iv 20 n W H g → s_vw 20 n W H (s_tss 20 n k g) (s_rit n k r) ∧ s_iv 20 n W H (s_tss 20 n k g)
  | 0, g, r, hv, hi => ⟨hv, hi⟩
  | k + 1, g, r, hv, hi => by
    unfold s_tss
    split
    · rename_i h0
      have hs := s_same_20 hW hW5 hH hH5 h6 (s_rest_20 hW hW5 hH hH5 h6 hi h0 k r hv) hi
      refine ⟨?_, hs.2.1⟩
      show s_vw 20 n W H (s_step 20 n g) (s_rit n k (s_rst n r))
      rw [s_rit_s]
      exact hs.1
    · have hs := s_same_20 hW hW5 hH hH5 h6 hv hi
      exact s_steps_20 hW hW5 hH hH5 h6 k _ _ hs.1 hs.2.1
theorem s_rest_35 {n W H : Nat} {g : qM} (hW : 2 ≤ W) (hW5 : W ≤ 5) (hH : 2 ≤ H) (hH5 : H ≤ 5) (h6 : n ≤ 6) (hi : s_iv 35 n W H g) (h0 : s_step 35 n g 28 5 = 0 ∧ s_step 35 n g 28 6 = 0) : ∀ k r, s_vw 35 n W H g r → s_vw 35 n W H g (s_rit n k r)
  | 0, r, hv => hv
  | k + 1, r, hv => by
    have hs := s_same_35 hW hW5 hH hH5 h6 hv hi
    have hr := s_rest_r (hs.2.2.2.2.mp h0)
    obtain ⟨v1, v2, v3, v4, v5, v6, v7, v8, v9, v10, v11, v12⟩ := hv
    exact s_rest_35 hW hW5 hH hH5 h6 hi h0 k (s_rst n r) ⟨v1, v2, v3, v4, v5, v6, v7, v8, v9, fun p hp => (hr p hp).1.trans (v10 p hp), fun p hp => (hr p hp).2.trans (v11 p hp), v12⟩
/-- k STEPS of the class, k STEPS of the reference -/
theorem s_steps_35 {n W H : Nat} (hW : 2 ≤ W) (hW5 : W ≤ 5) (hH : 2 ≤ H) (hH5 : H ≤ 5) (h6 : n ≤ 6) : ∀ k g r, s_vw 35 n W H g r → s_iv 35 n W H g → s_vw 35 n W H (s_tss 35 n k g) (s_rit n k r) ∧ s_iv 35 n W H (s_tss 35 n k g)
  | 0, g, r, hv, hi => ⟨hv, hi⟩
  | k + 1, g, r, hv, hi => by
    unfold s_tss
    split
    · rename_i h0
      have hs := s_same_35 hW hW5 hH hH5 h6 (s_rest_35 hW hW5 hH hH5 h6 hi h0 k r hv) hi
      refine ⟨?_, hs.2.1⟩
      show s_vw 35 n W H (s_step 35 n g) (s_rit n k (s_rst n r))
      rw [s_rit_s]
      exact hs.1
    · have hs := s_same_35 hW hW5 hH hH5 h6 hv hi
      exact s_steps_35 hW hW5 hH hH5 h6 k _ _ hs.1 hs.2.1
