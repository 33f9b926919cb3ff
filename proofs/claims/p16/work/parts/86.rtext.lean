/-! TEXT of the reference. -/
def t_d0 (j : Nat) : Int32 := if (15 ≤ j ∧ j < 20) ∨ j < 5 then i_none else 0
theorem t_fi4 {b : Nat → Int32} {s p : Nat} (hp : p ≤ s) (h : t_ki b s p = 4) : t_fi b s p = s := by
  have z := (t_fi_b (b := b) hp).2
  rcases Nat.lt_or_ge (t_fi b s p) s with q | q
  · exfalso
    have e : t_k0 b s p = t_kd (b (t_fi b s p)) := by unfold t_k0; rw [if_neg (by omega)]
    unfold t_ki at h
    rw [e] at h
    rcases t_kd_4 (b (t_fi b s p)) with y | y | y | y <;> rw [y] at h <;> revert h
    · rw [if_neg (by decide)]; decide
    · rw [if_neg (by decide)]; decide
    · rw [if_pos rfl]; split <;> decide
    · rw [if_neg (by decide)]; decide
  · omega
/-- behind the loop, the reference -/
def k_ar (s : Nat) (o : tO × Nat) (g0 g' : qM) (v : Int32) : Prop := k_fR g0 g' ∧ (¬ o.1.1 = 0 → 0 < o.1.1 ∧ g' 70 18 = o.1.1 ∧ g' 70 19 = Int32.ofNat o.1.2.1) ∧ (o.1.1 = 0 → g' 70 18 = 0 ∧ k_dh o.1.2.2.2 g' ∧ g' 70 15 = Int32.ofNat s ∧ v = Int32.ofNat o.2)
theorem sg_rx_1 (big : Nat → List Value → qM → qW → qR) (n0 : Nat) (G : qM) (U : qW) (v0 : Int32) : qm_run pm_m big m_146 (n0 + 2) 2 [(0, .ref 70), (1, .int v0)] [] G U = qm_run pm_m big m_146 n0 5 [(0, .ref 70), (1, .int v0)] [.int (44 : Int32), .int v0] G U := rfl
theorem sg_rx_2 (big : Nat → List Value → qM → qW → qR) (n0 : Nat) (G : qM) (U : qW) (v0 : Int32) : qm_run pm_m big m_146 (n0 + 5) 8 [(0, .ref 70), (1, .int v0)] [] G U = qm_run pm_m big m_146 n0 16 [(0, .ref 70), (1, .int v0)] [.int (15 : Int32), .int v0, .int v0, .ref 73] G U := rfl
theorem sg_rx_3 (big : Nat → List Value → qM → qW → qR) (n0 : Nat) (G : qM) (U : qW) (v0 : Int32) (v1 : Int32) : qm_run pm_m big m_146 (n0 + 2) 25 [(0, .ref 70), (1, .int v0)] [.int v1, .ref 73] G U = qm_run pm_m big m_146 n0 27 [(0, .ref 70), (1, .int v0)] [.int (5 : Int32), .int v0, .int v1, .ref 73] G U := rfl
theorem sg_rx_4 (big : Nat → List Value → qM → qW → qR) (n0 : Nat) (G : qM) (U : qW) (v0 : Int32) (v1 : Int32) : qm_run pm_m big m_146 (n0 + 1) 35 [(0, .ref 70), (1, .int v0)] [.int v1, .ref 73] G U = qm_run pm_m big m_146 n0 36 [(0, .ref 70), (1, .int v0)] [.int (0 : Int32), .int v1, .ref 73] G U := rfl
theorem sg_rx_5 (big : Nat → List Value → qM → qW → qR) (n0 : Nat) (G : qM) (U : qW) (v0 : Int32) : qm_run pm_m big m_146 (n0 + 2) 37 [(0, .ref 70), (1, .int v0)] [] G U = qm_run pm_m big m_146 n0 2 [(0, .ref 70), (1, .int (v0 + (1 : Int32)))] [] G U := rfl
theorem sg_rx_6 (big : Nat → List Value → qM → qW → qR) (n0 : Nat) (G : qM) (U : qW) (v0 : Int32) (v1 : Int32) : qm_run pm_m big m_146 (n0 + 2) 30 [(0, .ref 70), (1, .int v0)] [.int v1, .ref 73] G U = qm_run pm_m big m_146 n0 36 [(0, .ref 70), (1, .int v0)] [.int (Int8.toInt32 (Int8.ofInt (-4))), .int v1, .ref 73] G U := rfl
theorem sg_rx_7 (big : Nat → List Value → qM → qW → qR) (n0 : Nat) (G : qM) (U : qW) (v0 : Int32) (v1 : Int32) : qm_run pm_m big m_146 (n0 + 2) 19 [(0, .ref 70), (1, .int v0)] [.int v1, .ref 73] G U = qm_run pm_m big m_146 n0 22 [(0, .ref 70), (1, .int v0)] [.int (20 : Int32), .int v0, .int v1, .ref 73] G U := rfl
theorem sg_rx_8 (big : Nat → List Value → qM → qW → qR) (n0 : Nat) (G : qM) (U : qW) : qm_run pm_m big m_146 (n0 + 2) 0 [(0, .ref 70)] [] G U = qm_run pm_m big m_146 n0 2 [(0, .ref 70), (1, .int (0 : Int32))] [] G U := rfl
theorem sg_rx_9 (big : Nat → List Value → qM → qW → qR) (n0 : Nat) (G : qM) (U : qW) (v0 : Int32) : qm_run pm_m big m_146 (n0 + 40) 43 [(0, .ref 70), (1, .int v0)] [] G U = qm_run pm_m big m_146 n0 60 [(0, .ref 70), (1, .int (2 : Int32))] [.int (2 : Int32), .int (4 : Int32), .int (23 : Int32), .ref 73] (q_up (q_up G 73 21 (4 : Int32)) 73 22 (3 : Int32)) U := rfl
theorem sg_rx_10 (big : Nat → List Value → qM → qW → qR) (n0 : Nat) (G : qM) (U : qW) (v0 : Int32) : qm_run pm_m big m_147 (n0 + 2) 2 [(0, .ref 70), (1, .int v0)] [] G U = qm_run pm_m big m_147 n0 5 [(0, .ref 70), (1, .int v0)] [.int (44 : Int32), .int v0] G U := rfl
theorem sg_rx_11 (big : Nat → List Value → qM → qW → qR) (n0 : Nat) (G : qM) (U : qW) (v0 : Int32) : qm_run pm_m big m_147 (n0 + 6) 8 [(0, .ref 70), (1, .int v0)] [] G U = qm_run pm_m big m_147 n0 18 [(0, .ref 70), (1, .int v0)] [.int v0, .ref 73, .int v0, .ref 71] G U := rfl
theorem sg_rx_12 (big : Nat → List Value → qM → qW → qR) (n0 : Nat) (G : qM) (U : qW) (v0 : Int32) : qm_run pm_m big m_147 (n0 + 2) 20 [(0, .ref 70), (1, .int v0)] [] G U = qm_run pm_m big m_147 n0 2 [(0, .ref 70), (1, .int (v0 + (1 : Int32)))] [] G U := rfl
theorem sg_rx_13 (big : Nat → List Value → qM → qW → qR) (n0 : Nat) (G : qM) (U : qW) : qm_run pm_m big m_147 (n0 + 2) 0 [(0, .ref 70)] [] G U = qm_run pm_m big m_147 n0 2 [(0, .ref 70), (1, .int (0 : Int32))] [] G U := rfl
theorem sg_rx_14 (big : Nat → List Value → qM → qW → qR) (n0 : Nat) (G : qM) (U : qW) (v0 : Int32) : qm_run pm_m big m_151 (n0 + 2) 20 [(0, .ref 70), (1, .int v0)] [] G U = qm_run pm_m big m_151 n0 24 [(0, .ref 70), (1, .int v0)] [.int (G 70 18)] G U := rfl
theorem sg_rx_15 (big : Nat → List Value → qM → qW → qR) (n0 : Nat) (G : qM) (U : qW) (v0 : Int32) : qm_run pm_m big m_151 (n0 + 2) 27 [(0, .ref 70), (1, .int v0)] [] G U = qm_run pm_m big m_151 n0 31 [(0, .ref 70), (1, .int v0)] [.int (G 70 16)] G U := rfl
theorem sg_rx_16 (big : Nat → List Value → qM → qW → qR) (n0 : Nat) (G : qM) (U : qW) (v0 : Int32) : qm_run pm_m big m_151 (n0 + 1) 34 [(0, .ref 70), (1, .int v0)] [] G U = qm_run pm_m big m_151 n0 35 [(0, .ref 70), (1, .int v0)] [.ref 70] G U := rfl
theorem sg_rx_17 (big : Nat → List Value → qM → qW → qR) (n0 : Nat) (G : qM) (U : qW) (v0 : Int32) : qm_run pm_m big m_151 (n0 + 2) 38 [(0, .ref 70), (1, .int v0)] [] G U = qm_run pm_m big m_151 n0 20 [(0, .ref 70), (1, .int (v0 + (1 : Int32)))] [] G U := rfl
theorem sg_rx_18 (big : Nat → List Value → qM → qW → qR) (n0 : Nat) (G : qM) (U : qW) (v0 : Int32) : qm_run pm_m big m_151 (n0 + 2) 44 [(0, .ref 70), (1, .int v0)] [] G U = qm_run pm_m big m_151 n0 48 [(0, .ref 70), (1, .int v0)] [.int (G 70 18)] G U := rfl
theorem sg_rx_19 (big : Nat → List Value → qM → qW → qR) (n0 : Nat) (G : qM) (U : qW) (v0 : Int32) : qm_run pm_m big m_151 (n0 + 8) 51 [(0, .ref 70), (1, .int v0)] [] G U = qm_run pm_m big m_151 n0 65 [(0, .ref 70), (1, .int v0)] [.int ((G 70 6) * (G 70 7)), .int (G 70 10), .ref 70] G U := rfl
theorem sg_rx_20 (big : Nat → List Value → qM → qW → qR) (n0 : Nat) (G : qM) (U : qW) (v0 : Int32) : qm_run pm_m big m_151 (n0 + 2) 83 [(0, .ref 70), (1, .int v0)] [.ref 70] G U = qm_run pm_m big m_151 n0 86 [(0, .ref 70), (1, .int v0)] [.int (6 : Int32), .int (0 : Int32), .ref 70] G U := rfl
theorem sg_rx_21 (big : Nat → List Value → qM → qW → qR) (n0 : Nat) (G : qM) (U : qW) (v0 : Int32) : qm_run pm_m big m_151 (n0 + 5) 89 [(0, .ref 70), (1, .int v0)] [] G U = qm_run pm_m big m_151 n0 98 [(0, .ref 70), (1, .int v0)] [.int (G 70 18)] (q_up G 70 13 (0 : Int32)) U := rfl
theorem sg_rx_22 (big : Nat → List Value → qM → qW → qR) (n0 : Nat) (G : qM) (U : qW) (v0 : Int32) : qm_run pm_m big m_151 (n0 + 4) 68 [(0, .ref 70), (1, .int v0)] [.ref 70] G U = qm_run pm_m big m_151 n0 76 [(0, .ref 70), (1, .int v0)] [.int (G 70 8), .int (G 70 11), .ref 70] G U := rfl
theorem sg_rx_23 (big : Nat → List Value → qM → qW → qR) (n0 : Nat) (G : qM) (U : qW) (v0 : Int32) : qm_run pm_m big m_151 (n0 + 3) 79 [(0, .ref 70), (1, .int v0)] [.ref 70] G U = qm_run pm_m big m_151 n0 86 [(0, .ref 70), (1, .int v0)] [.int (6 : Int32), .int (1 : Int32), .ref 70] G U := rfl
theorem sg_rx_24 (big : Nat → List Value → qM → qW → qR) (n0 : Nat) (G : qM) (U : qW) (v0 : Int32) : qm_run pm_m big m_151 (n0 + 1) 109 [(0, .ref 70), (1, .int v0)] [] G U = qm_run pm_m big m_151 n0 110 [(0, .ref 70), (1, .int v0)] [.ref 70] G U := rfl
theorem sg_rx_25 (big : Nat → List Value → qM → qW → qR) (n0 : Nat) (G : qM) (U : qW) : qm_run pm_m big m_151 (n0 + 9) 0 [(0, .ref 70)] [] G U = qm_run pm_m big m_151 n0 13 [(0, .ref 70), (1, .int (0 : Int32))] [.ref 70] (q_up (q_up G 70 18 (0 : Int32)) 70 14 (0 : Int32)) U := rfl
theorem sg_rx_26 (big : Nat → List Value → qM → qW → qR) (n0 : Nat) (G : qM) (U : qW) : qm_run pm_m big m_151 (n0 + 1) 16 [(0, .ref 70), (1, .int (0 : Int32))] [] G U = qm_run pm_m big m_151 n0 17 [(0, .ref 70), (1, .int (0 : Int32))] [.ref 70] G U := rfl
theorem r_rline {b : Nat → Int32} {s p : Nat} {r : qM} (g : qM) (u : qW) (hb : k_b b s g) (hp : p ≤ s) (hl : k_la b s p g) (hf0 : g 70 18 = 0) (h4 : ¬ t_ki b s p = 4) (hd : k_dh r g) (hn : k_dn r) : ∃ g', q_BS 155 [.ref 70] g u (none, g', u) ∧ k_rc b s (o_fin b s (o_line b s (t_fi b s p) (t_pl b s p) (t_ki b s p) r)) g g' := by
  obtain ⟨k0, _, z14, z15, z16, _⟩ := hl.resolve_left (fun z => absurd (hf0.symm.trans z.2.1) (by decide))
  rw [if_neg h4] at z16
  by_cases k1 : (t_ki b s p) = 1
  · have h16 : g 70 16 = 1 := z16.trans k1
    rcases t_ln_rng (b := b) (f := (t_fi b s p)) (l := (t_pl b s p) - (t_fi b s p)) with e | e | e | e | e | e | e | e
    · have eo : o_line b s (t_fi b s p) (t_pl b s p) (t_ki b s p) r = o_town b s (t_fi b s p) (t_pl b s p) r := by
        unfold o_line
        rw [if_neg k0, if_pos k1, e, if_pos rfl]
      obtain ⟨_, q, g', rfl, h⟩ := r_rl0 g u hb hp hf0 z14 z15 h16 e hd hn
      rw [eo]
      exact ⟨g', q, h⟩
    · have eo : o_line b s (t_fi b s p) (t_pl b s p) (t_ki b s p) r = o_pull b s (t_fi b s p) (t_pl b s p) r := by
        unfold o_line
        rw [if_neg k0, if_pos k1, e, if_neg (by decide), if_pos rfl]
      obtain ⟨_, q, g', rfl, h⟩ := r_rl1 g u hb hp hf0 z14 z15 h16 e hd hn
      rw [eo]
      exact ⟨g', q, h⟩
    · have eo : o_line b s (t_fi b s p) (t_pl b s p) (t_ki b s p) r = o_press b s (t_fi b s p) (t_pl b s p) r := by
        unfold o_line
        rw [if_neg k0, if_pos k1, e, if_neg (by decide), if_neg (by decide), if_pos rfl]
      obtain ⟨_, q, g', rfl, h⟩ := r_rl2 g u hb hp hf0 z14 z15 h16 e hd hn
      rw [eo]
      exact ⟨g', q, h⟩
    · have eo : o_line b s (t_fi b s p) (t_pl b s p) (t_ki b s p) r = o_wall b s (t_pl b s p) r := by
        unfold o_line
        rw [if_neg k0, if_pos k1, e, if_neg (by decide), if_neg (by decide), if_neg (by decide), if_pos rfl]
      obtain ⟨_, q, g', rfl, h⟩ := r_rl3 g u hb hp hf0 z14 z15 h16 e hd hn
      rw [eo]
      exact ⟨g', q, h⟩
    · have eo : o_line b s (t_fi b s p) (t_pl b s p) (t_ki b s p) r = o_one b s (t_fi b s p) (t_pl b s p) r 0 := by
        unfold o_line
        rw [if_neg k0, if_pos k1, e, if_neg (by decide), if_neg (by decide), if_neg (by decide), if_neg (by decide), if_pos rfl]
      obtain ⟨_, q, g', rfl, h⟩ := r_rl4 g u hb hp hf0 z14 z15 h16 e hd hn
      rw [eo]
      exact ⟨g', q, h⟩
    · have eo : o_line b s (t_fi b s p) (t_pl b s p) (t_ki b s p) r = o_one b s (t_fi b s p) (t_pl b s p) r 1 := by
        unfold o_line
        rw [if_neg k0, if_pos k1, e, if_neg (by decide), if_neg (by decide), if_neg (by decide), if_neg (by decide), if_neg (by decide), if_pos rfl]
      obtain ⟨_, q, g', rfl, h⟩ := r_rl5 g u hb hp hf0 z14 z15 h16 e hd hn
      rw [eo]
      exact ⟨g', q, h⟩
    · have eo : o_line b s (t_fi b s p) (t_pl b s p) (t_ki b s p) r = o_goal b s (t_pl b s p) r := by
        unfold o_line
        rw [if_neg k0, if_pos k1, e, if_neg (by decide), if_neg (by decide), if_neg (by decide), if_neg (by decide), if_neg (by decide), if_neg (by decide), if_pos rfl]
      obtain ⟨_, q, g', rfl, h⟩ := r_rl6 g u hb hp hf0 z14 z15 h16 e hd hn
      rw [eo]
      exact ⟨g', q, h⟩
    · have eo : o_line b s (t_fi b s p) (t_pl b s p) (t_ki b s p) r = o_bad 2 (t_fi b s p) r := by
        unfold o_line
        rw [if_neg k0, if_pos k1, e, if_neg (by decide), if_neg (by decide), if_neg (by decide), if_neg (by decide), if_neg (by decide), if_neg (by decide), if_neg (by decide)]
      obtain ⟨_, q, g', rfl, h⟩ := r_rln g u hb hp hf0 z14 z15 h16 e hd hn
      rw [eo]
      exact ⟨g', q, h⟩
  · have eo : o_line b s (t_fi b s p) (t_pl b s p) (t_ki b s p) r = o_bad 2 (t_fi b s p) r := by
      unfold o_line
      rw [if_neg k0, if_neg k1]
    obtain ⟨_, q, g', rfl, h⟩ := r_rlx g u hb hp hf0 z14 z15 (fun z => k1 (z16.symm.trans z)) hd hn
    rw [eo, o_fin_bad (by decide)]
    exact ⟨g', q, h⟩
theorem fd_l (g : qM) (u : qW) {Q : Option Value × qM × qW → Prop} (hQ : q_EV m_146 43 [(0, .ref 70), (1, .int (Int32.ofNat 44))] [] (s_row_ 73 t_d0 44 g) u Q) : ∀ k i, i + k = 44 → q_EV m_146 2 [(0, .ref 70), (1, .int (Int32.ofNat i))] [] (s_row_ 73 t_d0 i g) u Q := by
  intro k
  induction k with
  | zero =>
    intro i hi
    have e : i = 44 := by omega
    subst e
    refine q_step 2 5 [(0, .ref 70), (1, .int (Int32.ofNat 44))] [.int (44 : Int32), .int (Int32.ofNat 44)] (s_row_ 73 t_d0 44 g) u (fun big n0 => sg_rx_1 big n0 (s_row_ 73 t_d0 44 g) u (Int32.ofNat 44)) ?_
    refine q_ic_ge rfl (fun (hc0 : (44 : Int32) ≤ (Int32.ofNat 44)) => ?_) (fun hc0 => absurd (show (44 : Int32) ≤ (Int32.ofNat 44) from by decide) hc0)
    exact hQ
  | succ k ih =>
    intro i hi
    refine q_step 2 5 [(0, .ref 70), (1, .int (Int32.ofNat i))] [.int (44 : Int32), .int (Int32.ofNat i)] (s_row_ 73 t_d0 i g) u (fun big n0 => sg_rx_1 big n0 (s_row_ 73 t_d0 i g) u (Int32.ofNat i)) ?_
    refine q_ic_ge rfl (fun hc0 => absurd (show (44 : Int32) ≤ (Int32.ofNat i) from hc0) (fun z => by rw [show (44 : Int32) = Int32.ofNat 44 from rfl, q_le (by omega) (by omega)] at z; omega)) (fun (hc0 : ¬ ((44 : Int32) ≤ (Int32.ofNat i))) => ?_)
    refine q_step 5 16 [(0, .ref 70), (1, .int (Int32.ofNat i))] [.int (15 : Int32), .int (Int32.ofNat i), .int (Int32.ofNat i), .ref 73] (s_row_ 73 t_d0 i g) u (fun big n0 => sg_rx_2 big n0 (s_row_ 73 t_d0 i g) u (Int32.ofNat i)) ?_
    refine q_ic_lt rfl (fun (hc1 : (Int32.ofNat i) < (15 : Int32)) => ?_) (fun (hc1 : ¬ ((Int32.ofNat i) < (15 : Int32))) => ?_)
    · refine q_step 2 27 [(0, .ref 70), (1, .int (Int32.ofNat i))] [.int (5 : Int32), .int (Int32.ofNat i), .int (Int32.ofNat i), .ref 73] (s_row_ 73 t_d0 i g) u (fun big n0 => sg_rx_3 big n0 (s_row_ 73 t_d0 i g) u (Int32.ofNat i) (Int32.ofNat i)) ?_
      refine q_ic_ge rfl (fun (hc2 : (5 : Int32) ≤ (Int32.ofNat i)) => ?_) (fun (hc2 : ¬ ((5 : Int32) ≤ (Int32.ofNat i))) => ?_)
      · refine q_step 1 36 [(0, .ref 70), (1, .int (Int32.ofNat i))] [.int (0 : Int32), .int (Int32.ofNat i), .ref 73] (s_row_ 73 t_d0 i g) u (fun big n0 => sg_rx_4 big n0 (s_row_ 73 t_d0 i g) u (Int32.ofNat i) (Int32.ofNat i)) ?_
        refine q_iast (j := i) (q_ixn (by omega) (by omega)) rfl rfl ?_
        refine q_step 2 2 [(0, .ref 70), (1, .int ((Int32.ofNat i) + (1 : Int32)))] [] (q_up (s_row_ 73 t_d0 i g) 73 i (0 : Int32)) u (fun big n0 => sg_rx_5 big n0 (q_up (s_row_ 73 t_d0 i g) 73 i (0 : Int32)) u (Int32.ofNat i)) ?_
        have d1 : i < 15 := by
          have z := hc1
          rw [show (15 : Int32) = Int32.ofNat 15 from rfl, q_lt (by omega) (by omega)] at z
          exact z
        have d2 : 5 ≤ i := by
          have z := hc2
          rw [show (5 : Int32) = Int32.ofNat 5 from rfl, q_le (by omega) (by omega)] at z
          exact z
        have e : t_d0 i = (0 : Int32) := by
          unfold t_d0
          rw [if_neg (by omega)]
        have z := ih (i + 1) (by omega)
        rw [← s_row_s, e] at z
        rw [q_succ]
        exact z
      · refine q_step 2 36 [(0, .ref 70), (1, .int (Int32.ofNat i))] [.int (Int8.toInt32 (Int8.ofInt (-4))), .int (Int32.ofNat i), .ref 73] (s_row_ 73 t_d0 i g) u (fun big n0 => sg_rx_6 big n0 (s_row_ 73 t_d0 i g) u (Int32.ofNat i) (Int32.ofNat i)) ?_
        refine q_iast (j := i) (q_ixn (by omega) (by omega)) rfl rfl ?_
        refine q_step 2 2 [(0, .ref 70), (1, .int ((Int32.ofNat i) + (1 : Int32)))] [] (q_up (s_row_ 73 t_d0 i g) 73 i (Int8.toInt32 (Int8.ofInt (-4)))) u (fun big n0 => sg_rx_5 big n0 (q_up (s_row_ 73 t_d0 i g) 73 i (Int8.toInt32 (Int8.ofInt (-4)))) u (Int32.ofNat i)) ?_
        have d1 : i < 15 := by
          have z := hc1
          rw [show (15 : Int32) = Int32.ofNat 15 from rfl, q_lt (by omega) (by omega)] at z
          exact z
        have d2 : ¬ 5 ≤ i := by
          have z := hc2
          rw [show (5 : Int32) = Int32.ofNat 5 from rfl, q_le (by omega) (by omega)] at z
          exact z
        have e : t_d0 i = (Int8.toInt32 (Int8.ofInt (-4))) := by
          unfold t_d0
          rw [if_pos (by omega)]
        have z := ih (i + 1) (by omega)
        rw [← s_row_s, e] at z
        rw [q_succ]
        exact z
    · refine q_step 2 22 [(0, .ref 70), (1, .int (Int32.ofNat i))] [.int (20 : Int32), .int (Int32.ofNat i), .int (Int32.ofNat i), .ref 73] (s_row_ 73 t_d0 i g) u (fun big n0 => sg_rx_7 big n0 (s_row_ 73 t_d0 i g) u (Int32.ofNat i) (Int32.ofNat i)) ?_
      refine q_ic_lt rfl (fun (hc2 : (Int32.ofNat i) < (20 : Int32)) => ?_) (fun (hc2 : ¬ ((Int32.ofNat i) < (20 : Int32))) => ?_)
      · refine q_step 2 36 [(0, .ref 70), (1, .int (Int32.ofNat i))] [.int (Int8.toInt32 (Int8.ofInt (-4))), .int (Int32.ofNat i), .ref 73] (s_row_ 73 t_d0 i g) u (fun big n0 => sg_rx_6 big n0 (s_row_ 73 t_d0 i g) u (Int32.ofNat i) (Int32.ofNat i)) ?_
        refine q_iast (j := i) (q_ixn (by omega) (by omega)) rfl rfl ?_
        refine q_step 2 2 [(0, .ref 70), (1, .int ((Int32.ofNat i) + (1 : Int32)))] [] (q_up (s_row_ 73 t_d0 i g) 73 i (Int8.toInt32 (Int8.ofInt (-4)))) u (fun big n0 => sg_rx_5 big n0 (q_up (s_row_ 73 t_d0 i g) 73 i (Int8.toInt32 (Int8.ofInt (-4)))) u (Int32.ofNat i)) ?_
        have d1 : ¬ i < 15 := by
          have z := hc1
          rw [show (15 : Int32) = Int32.ofNat 15 from rfl, q_lt (by omega) (by omega)] at z
          exact z
        have d2 : i < 20 := by
          have z := hc2
          rw [show (20 : Int32) = Int32.ofNat 20 from rfl, q_lt (by omega) (by omega)] at z
          exact z
        have e : t_d0 i = (Int8.toInt32 (Int8.ofInt (-4))) := by
          unfold t_d0
          rw [if_pos (by omega)]
        have z := ih (i + 1) (by omega)
        rw [← s_row_s, e] at z
        rw [q_succ]
        exact z
      · refine q_step 2 27 [(0, .ref 70), (1, .int (Int32.ofNat i))] [.int (5 : Int32), .int (Int32.ofNat i), .int (Int32.ofNat i), .ref 73] (s_row_ 73 t_d0 i g) u (fun big n0 => sg_rx_3 big n0 (s_row_ 73 t_d0 i g) u (Int32.ofNat i) (Int32.ofNat i)) ?_
        refine q_ic_ge rfl (fun (hc3 : (5 : Int32) ≤ (Int32.ofNat i)) => ?_) (fun (hc3 : ¬ ((5 : Int32) ≤ (Int32.ofNat i))) => ?_)
        · refine q_step 1 36 [(0, .ref 70), (1, .int (Int32.ofNat i))] [.int (0 : Int32), .int (Int32.ofNat i), .ref 73] (s_row_ 73 t_d0 i g) u (fun big n0 => sg_rx_4 big n0 (s_row_ 73 t_d0 i g) u (Int32.ofNat i) (Int32.ofNat i)) ?_
          refine q_iast (j := i) (q_ixn (by omega) (by omega)) rfl rfl ?_
          refine q_step 2 2 [(0, .ref 70), (1, .int ((Int32.ofNat i) + (1 : Int32)))] [] (q_up (s_row_ 73 t_d0 i g) 73 i (0 : Int32)) u (fun big n0 => sg_rx_5 big n0 (q_up (s_row_ 73 t_d0 i g) 73 i (0 : Int32)) u (Int32.ofNat i)) ?_
          have d1 : ¬ i < 15 := by
            have z := hc1
            rw [show (15 : Int32) = Int32.ofNat 15 from rfl, q_lt (by omega) (by omega)] at z
            exact z
          have d2 : ¬ i < 20 := by
            have z := hc2
            rw [show (20 : Int32) = Int32.ofNat 20 from rfl, q_lt (by omega) (by omega)] at z
            exact z
          have d3 : 5 ≤ i := by
            have z := hc3
            rw [show (5 : Int32) = Int32.ofNat 5 from rfl, q_le (by omega) (by omega)] at z
            exact z
          have e : t_d0 i = (0 : Int32) := by
            unfold t_d0
            rw [if_neg (by omega)]
          have z := ih (i + 1) (by omega)
          rw [← s_row_s, e] at z
          rw [q_succ]
          exact z
        · refine q_step 2 36 [(0, .ref 70), (1, .int (Int32.ofNat i))] [.int (Int8.toInt32 (Int8.ofInt (-4))), .int (Int32.ofNat i), .ref 73] (s_row_ 73 t_d0 i g) u (fun big n0 => sg_rx_6 big n0 (s_row_ 73 t_d0 i g) u (Int32.ofNat i) (Int32.ofNat i)) ?_
          refine q_iast (j := i) (q_ixn (by omega) (by omega)) rfl rfl ?_
          refine q_step 2 2 [(0, .ref 70), (1, .int ((Int32.ofNat i) + (1 : Int32)))] [] (q_up (s_row_ 73 t_d0 i g) 73 i (Int8.toInt32 (Int8.ofInt (-4)))) u (fun big n0 => sg_rx_5 big n0 (q_up (s_row_ 73 t_d0 i g) 73 i (Int8.toInt32 (Int8.ofInt (-4)))) u (Int32.ofNat i)) ?_
          have d1 : ¬ i < 15 := by
            have z := hc1
            rw [show (15 : Int32) = Int32.ofNat 15 from rfl, q_lt (by omega) (by omega)] at z
            exact z
          have d2 : ¬ i < 20 := by
            have z := hc2
            rw [show (20 : Int32) = Int32.ofNat 20 from rfl, q_lt (by omega) (by omega)] at z
            exact z
          have d3 : ¬ 5 ≤ i := by
            have z := hc3
            rw [show (5 : Int32) = Int32.ofNat 5 from rfl, q_le (by omega) (by omega)] at z
            exact z
          have e : t_d0 i = (Int8.toInt32 (Int8.ofInt (-4))) := by
            unfold t_d0
            rw [if_pos (by omega)]
          have z := ih (i + 1) (by omega)
          rw [← s_row_s, e] at z
          rw [q_succ]
          exact z
def s_fdr (g : qM) : qM := (q_up (q_up (q_up (q_up (q_up (q_up (q_up (q_up (q_up (q_up (s_row_ 73 t_d0 44 g) 73 21 (4 : Int32)) 73 22 (3 : Int32)) 73 23 (2 : Int32)) 73 24 (1 : Int32)) 70 6 (3 : Int32)) 70 7 (3 : Int32)) 70 8 (0 : Int32)) 70 9 (0 : Int32)) 70 10 (Int8.toInt32 (Int8.ofInt (-4)))) 70 11 (Int8.toInt32 (Int8.ofInt (-4))))
theorem r_first (g : qM) (u : qW) : q_BS 146 [.ref 70] g u (none, s_fdr g, u) := by
  refine q_bx (mm := m_146) rfl (Nat.le_of_ble_eq_true rfl) rfl ?_
  refine q_step 2 2 [(0, .ref 70), (1, .int (0 : Int32))] [] g u (fun big n0 => sg_rx_8 big n0 g u) ?_
  have hh : q_EV m_146 43 [(0, .ref 70), (1, .int (Int32.ofNat 44))] [] (s_row_ 73 t_d0 44 g) u (fun R => R = (none, s_fdr g, u)) := by
    refine q_step 40 60 [(0, .ref 70), (1, .int (2 : Int32))] [.int (2 : Int32), .int (4 : Int32), .int (23 : Int32), .ref 73] (q_up (q_up (s_row_ 73 t_d0 44 g) 73 21 (4 : Int32)) 73 22 (3 : Int32)) u (fun big n0 => sg_rx_9 big n0 (s_row_ 73 t_d0 44 g) u (Int32.ofNat 44)) ?_
    refine q_ret 40 (none, (q_up (q_up (q_up (q_up (q_up (q_up (q_up (q_up (q_up (q_up (s_row_ 73 t_d0 44 g) 73 21 (4 : Int32)) 73 22 (3 : Int32)) 73 23 (2 : Int32)) 73 24 (1 : Int32)) 70 6 (3 : Int32)) 70 7 (3 : Int32)) 70 8 (0 : Int32)) 70 9 (0 : Int32)) 70 10 (Int8.toInt32 (Int8.ofInt (-4)))) 70 11 (Int8.toInt32 (Int8.ofInt (-4)))), u) (fun _ _ => rfl) ?_
    rfl
  have z := fd_l g u hh 44 0 (by omega)
  rw [s_row_0] at z
  exact z
theorem s_fdr_d (g : qM) : k_dh t_r0 (s_fdr g) := by
  refine ⟨fun j hj => ?_, fun j h1 h2 => ?_⟩
  · by_cases e1 : j = 21
    · subst e1; rfl
    by_cases e2 : j = 22
    · subst e2; rfl
    by_cases e3 : j = 23
    · subst e3; rfl
    by_cases e4 : j = 24
    · subst e4; rfl
    unfold s_fdr
    rw [q_up_ne (by decide), q_up_ne (by decide), q_up_ne (by decide), q_up_ne (by decide), q_up_ne (by decide), q_up_ne (by decide), q_up_at, if_neg e4, q_up_at, if_neg e3, q_up_at, if_neg e2, q_up_at, if_neg e1]
    show (if (73 : Nat) = 73 then (if j < 44 then t_d0 j else g 73 j) else g 73 j) = (if (73 : Nat) = 73 then (if (15 ≤ j ∧ j < 20) ∨ j < 5 then i_none else if 21 ≤ j ∧ j ≤ 24 then Int32.ofNat (25 - j) else 0) else _)
    rw [if_pos rfl, if_pos hj, if_pos rfl]
    unfold t_d0
    by_cases c : (15 ≤ j ∧ j < 20) ∨ j < 5
    · rw [if_pos c, if_pos c]
    · rw [if_neg c, if_neg c, if_neg (by omega)]
  · rcases (show j = 6 ∨ j = 7 ∨ j = 8 ∨ j = 9 ∨ j = 10 ∨ j = 11 by omega) with e | e | e | e | e | e <;> (subst e; rfl)
theorem k_fR.row {g g' : qM} (h : k_fR g g') {f : Nat → Int32} {n : Nat} : k_fR g (s_row_ 73 f n g') := by
  refine ⟨fun b h1 h2 => ?_, fun j hj => h.2 j hj⟩
  funext i
  show (if b = 73 then _ else g' b i) = _
  rw [if_neg h2, h.1 b h1 h2]
theorem s_fdr_R (g : qM) : k_fR g (s_fdr g) := by
  unfold s_fdr
  repeat (first | exact k_fR_rfl g | refine k_fR.up ?_ (by omega) | refine k_fR.row ?_)
theorem kd_l (g : qM) (u : qW) {Q : Option Value × qM × qW → Prop} (hQ : q_EV m_147 26 [(0, .ref 70), (1, .int (Int32.ofNat 44))] [] (s_row_ 71 (g 73) 44 g) u Q) : ∀ k i, i + k = 44 → q_EV m_147 2 [(0, .ref 70), (1, .int (Int32.ofNat i))] [] (s_row_ 71 (g 73) i g) u Q := by
  intro k
  induction k with
  | zero =>
    intro i hi
    have e : i = 44 := by omega
    subst e
    refine q_step 2 5 [(0, .ref 70), (1, .int (Int32.ofNat 44))] [.int (44 : Int32), .int (Int32.ofNat 44)] (s_row_ 71 (g 73) 44 g) u (fun big n0 => sg_rx_10 big n0 (s_row_ 71 (g 73) 44 g) u (Int32.ofNat 44)) ?_
    refine q_ic_ge rfl (fun (hc0 : (44 : Int32) ≤ (Int32.ofNat 44)) => ?_) (fun hc0 => absurd (show (44 : Int32) ≤ (Int32.ofNat 44) from by decide) hc0)
    exact hQ
  | succ k ih =>
    intro i hi
    refine q_step 2 5 [(0, .ref 70), (1, .int (Int32.ofNat i))] [.int (44 : Int32), .int (Int32.ofNat i)] (s_row_ 71 (g 73) i g) u (fun big n0 => sg_rx_10 big n0 (s_row_ 71 (g 73) i g) u (Int32.ofNat i)) ?_
    refine q_ic_ge rfl (fun hc0 => absurd (show (44 : Int32) ≤ (Int32.ofNat i) from hc0) (fun z => by rw [show (44 : Int32) = Int32.ofNat 44 from rfl, q_le (by omega) (by omega)] at z; omega)) (fun (hc0 : ¬ ((44 : Int32) ≤ (Int32.ofNat i))) => ?_)
    refine q_step 6 18 [(0, .ref 70), (1, .int (Int32.ofNat i))] [.int (Int32.ofNat i), .ref 73, .int (Int32.ofNat i), .ref 71] (s_row_ 71 (g 73) i g) u (fun big n0 => sg_rx_11 big n0 (s_row_ 71 (g 73) i g) u (Int32.ofNat i)) ?_
    refine q_iald (j := i) (q_ixn (by omega) (by omega)) rfl rfl ?_
    refine q_iast (j := i) (q_ixn (by omega) (by omega)) rfl rfl ?_
    refine q_step 2 2 [(0, .ref 70), (1, .int ((Int32.ofNat i) + (1 : Int32)))] [] (q_up (s_row_ 71 (g 73) i g) 71 i ((s_row_ 71 (g 73) i g) 73 i)) u (fun big n0 => sg_rx_12 big n0 (q_up (s_row_ 71 (g 73) i g) 71 i ((s_row_ 71 (g 73) i g) 73 i)) u (Int32.ofNat i)) ?_
    have z := ih (i + 1) (by omega)
    rw [← s_row_s] at z
    rw [q_succ]
    exact z
def s_kdr (g : qM) : qM := (q_up (q_up (q_up (q_up (q_up (s_row_ 71 (g 73) 44 g) 70 2 ((s_row_ 71 (g 73) 44 g) 70 6)) 70 3 ((s_row_ 71 (g 73) 44 g) 70 7)) 70 4 ((s_row_ 71 (g 73) 44 g) 70 8)) 72 0 ((0 : Int32) &&& 1)) 72 1 ((0 : Int32) &&& 1))
theorem r_keepd (g : qM) (u : qW) : q_BS 147 [.ref 70] g u (none, s_kdr g, u) := by
  refine q_bx (mm := m_147) rfl (Nat.le_of_ble_eq_true rfl) rfl ?_
  refine q_step 2 2 [(0, .ref 70), (1, .int (0 : Int32))] [] g u (fun big n0 => sg_rx_13 big n0 g u) ?_
  have hh : q_EV m_147 26 [(0, .ref 70), (1, .int (Int32.ofNat 44))] [] (s_row_ 71 (g 73) 44 g) u (fun R => R = (none, s_kdr g, u)) := by
    refine q_ret 23 (none, (q_up (q_up (q_up (q_up (q_up (s_row_ 71 (g 73) 44 g) 70 2 ((s_row_ 71 (g 73) 44 g) 70 6)) 70 3 ((s_row_ 71 (g 73) 44 g) 70 7)) 70 4 ((s_row_ 71 (g 73) 44 g) 70 8)) 72 0 ((0 : Int32) &&& 1)) 72 1 ((0 : Int32) &&& 1)), u) (fun _ _ => rfl) ?_
    rfl
  have z := kd_l g u hh 44 0 (by omega)
  rw [s_row_0] at z
  exact z
theorem tx_bad {Q : Option Value × qM × qW → Prop} (g : qM) (u : qW) (v : Int32) (hf : ¬ g 70 18 = 0) (hQ : q_EV m_151 44 [(0, .ref 70), (1, .int v)] [] g u Q) : q_EV m_151 20 [(0, .ref 70), (1, .int v)] [] g u Q := by
  refine q_step 2 24 [(0, .ref 70), (1, .int v)] [.int (g 70 18)] g u (fun big n0 => sg_rx_14 big n0 g u v) ?_
  refine q_if_ne rfl (fun hc0 => absurd (show (g 70 18) = 0 from hc0) (hf)) (fun (hc0 : ¬ ((g 70 18) = 0)) => ?_)
  exact hQ
theorem tx_l {b : Nat → Int32} {s : Nat} (u : qW) {Q : Option Value × qM × qW → Prop} : ∀ k p m r g g0, k_fR g0 g → k_b b s g → p ≤ s → k_la b s p g → (g 70 18 = 0 → k_dh r g) → k_dn r → s < p + k → (∀ g' v, k_ar s (o_tape b s k p m r) g0 g' v → q_EV m_151 44 [(0, .ref 70), (1, .int v)] [] g' u Q) → q_EV m_151 20 [(0, .ref 70), (1, .int (Int32.ofNat m))] [] g u Q := by
  intro k
  induction k with
  | zero =>
    intro p m r g g0 hfr hb hp hl hd hn hk
    omega
  | succ k ih =>
    intro p m r g g0 hfr hb hp hl hd hn hk hQ
    have hps := (t_pl_b (b := b) hp).2.1
    refine q_step 2 24 [(0, .ref 70), (1, .int (Int32.ofNat m))] [.int (g 70 18)] g u (fun big n0 => sg_rx_14 big n0 g u (Int32.ofNat m)) ?_
    refine q_if_ne rfl (fun (hc0 : (g 70 18) = 0) => ?_) (fun (hc0 : ¬ ((g 70 18) = 0)) => ?_)
    · refine q_step 2 31 [(0, .ref 70), (1, .int (Int32.ofNat m))] [.int (g 70 16)] g u (fun big n0 => sg_rx_15 big n0 g u (Int32.ofNat m)) ?_
      refine q_if_eq rfl (fun (hc1 : (g 70 16) = 0) => ?_) (fun (hc1 : ¬ ((g 70 16) = 0)) => ?_)
      · obtain ⟨k0, _, z14, z15, z16, _⟩ := hl.resolve_left (fun z => absurd (hc0.symm.trans z.2.1) (by decide))
        have k4 : t_ki b s p = 4 := by
          by_cases e4 : t_ki b s p = 4
          · exact e4
          · rw [if_neg e4] at z16
            exact absurd (z16.symm.trans hc1) k0
        refine hQ g _ ?_
        rw [o_tape, if_pos k4]
        exact ⟨hfr, fun z => absurd rfl z, fun _ => ⟨hc0, hd hc0, z15.trans (by rw [t_fi4 hp k4]), rfl⟩⟩
      · refine q_step 1 35 [(0, .ref 70), (1, .int (Int32.ofNat m))] [.ref 70] g u (fun big n0 => sg_rx_16 big n0 g u (Int32.ofNat m)) ?_
        have k4 : ¬ t_ki b s p = 4 := fun z => by
          rcases hl with y | y
          · exact absurd (hc0.symm.trans y.2.1) (by decide)
          · exact hc1 (y.2.2.2.2.1.trans (if_pos z))
        obtain ⟨g1, q1, c1⟩ := r_rline g u hb hp hl hc0 k4 (hd hc0) hn
        refine q_call (M2 := 155) (rest := []) (q1) (fun _ _ => rfl) ?_
        refine q_step 2 20 [(0, .ref 70), (1, .int ((Int32.ofNat m) + (1 : Int32)))] [] g1 u (fun big n0 => sg_rx_17 big n0 g1 u (Int32.ofNat m)) ?_
        by_cases e2 : (o_fin b s (o_line b s (t_fi b s p) (t_pl b s p) (t_ki b s p) r)).1 = 0
        · have zo := k_on_fin (b := b) (k_on_line (b := b) (f := t_fi b s p) (k := t_ki b s p) hn hps) e2
          obtain ⟨zp, zl, zd⟩ := c1.2.2 e2
          have hlt := (t_pl_b (b := b) hp).2.2 (t_ki_fi k4)
          have hfi := (t_fi_b (b := b) hp).1
          rw [q_succ]
          refine ih _ (m + 1) _ g1 g0 (hfr.trans c1.1) (hb.R c1.1) zp zl zd zo.1 (by omega) (fun g' v hg => hQ g' v ?_)
          rw [o_tape, if_neg k4, if_pos e2]
          exact hg
        · obtain ⟨y1, y2, y3⟩ := c1.2.1 e2
          refine tx_bad g1 u _ (by rw [y2]; exact e2) (hQ g1 _ ?_)
          rw [o_tape, if_neg k4, if_neg e2]
          exact ⟨hfr.trans c1.1, fun _ => ⟨y1, y2, y3⟩, fun z => absurd z e2⟩
    · have z := hl.resolve_right (fun z => hc0 z.2.1)
      have eo : (o_fin b s (o_line b s (t_fi b s p) (t_pl b s p) (t_ki b s p) r)) = o_bad 1 (t_fi b s p) r := by
        rw [z.1]
        unfold o_line
        rw [if_pos rfl, o_fin_bad (by decide)]
      refine hQ g _ ?_
      rw [o_tape, if_neg (by rw [z.1]; decide), eo, if_neg (show ¬ (o_bad 1 (t_fi b s p) r).1 = 0 from (by decide : ¬ (1 : Int32) = 0))]
      exact ⟨hfr, fun _ => ⟨(by decide : (0 : Int32) < 1), z.2.1, z.2.2⟩, fun y => absurd y (by decide : ¬ (1 : Int32) = 0)⟩
theorem tx_e {s : Nat} {oo : tO × Nat} {g0 : qM} (g : qM) (u : qW) (v : Int32) (ha : k_ar s oo g0 g v) : q_EV m_151 44 [(0, .ref 70), (1, .int v)] [] g u (fun R => ∃ g', R = (some (.int (t_ans (o_end s oo.1, oo.2))), g', u) ∧ (∀ a, a < 70 ∨ 73 < a → g' a = g0 a) ∧ (∀ j, 44 ≤ j → g' 71 j = g0 71 j) ∧ (∀ j, j < 2 ∨ j = 5 ∨ j = 12 ∨ 19 < j → g' 70 j = g0 70 j) ∧ g' 70 13 = 0 ∧ g' 70 18 = (o_end s oo.1).1 ∧ (¬ (o_end s oo.1).1 = 0 → g' 71 = g0 71 ∧ g' 72 = g0 72 ∧ ∀ j, j < 6 → g' 70 j = g0 70 j) ∧ ((o_end s oo.1).1 = 0 → g' 72 0 = 0 ∧ g' 72 1 = 0 ∧ (∀ j, j < 44 → g' 71 j = (o_end s oo.1).2.2.2 73 j) ∧ g' 70 2 = (o_end s oo.1).2.2.2 70 6 ∧ g' 70 3 = (o_end s oo.1).2.2.2 70 7 ∧ g' 70 4 = (o_end s oo.1).2.2.2 70 8)) := by
  refine q_step 2 48 [(0, .ref 70), (1, .int v)] [.int (g 70 18)] g u (fun big n0 => sg_rx_18 big n0 g u v) ?_
  refine q_if_ne rfl (fun (hc0 : (g 70 18) = 0) => ?_) (fun (hc0 : ¬ ((g 70 18) = 0)) => ?_)
  · refine q_step 8 65 [(0, .ref 70), (1, .int v)] [.int ((g 70 6) * (g 70 7)), .int (g 70 10), .ref 70] g u (fun big n0 => sg_rx_19 big n0 g u v) ?_
    refine q_ic_ge rfl (fun (hc1 : ((g 70 6) * (g 70 7)) ≤ (g 70 10)) => ?_) (fun (hc1 : ¬ (((g 70 6) * (g 70 7)) ≤ (g 70 10))) => ?_)
    · refine q_step 2 86 [(0, .ref 70), (1, .int v)] [.int (6 : Int32), .int (0 : Int32), .ref 70] g u (fun big n0 => sg_rx_20 big n0 g u v) ?_
      refine q_call (M2 := 154) (rest := []) (b_needs0 _ _ _ hc0) (fun _ _ => rfl) ?_
      refine q_step 5 98 [(0, .ref 70), (1, .int v)] [.int (6 : Int32)] (q_up (q_up (q_up g 70 18 (6 : Int32)) 70 19 (g 70 15)) 70 13 (0 : Int32)) u (fun big n0 => sg_rx_21 big n0 (q_up (q_up g 70 18 (6 : Int32)) 70 19 (g 70 15)) u v) ?_
      refine q_if_le rfl (fun hc2 => absurd (show (6 : Int32) ≤ 0 from hc2) (by decide)) (fun (hc2 : ¬ ((6 : Int32) ≤ 0)) => ?_)
      refine q_ret 5 (some (.int ((Int8.toInt32 (Int8.ofInt (-10))) - (g 70 15))), (q_up (q_up (q_up g 70 18 (6 : Int32)) 70 19 (g 70 15)) 70 13 (0 : Int32)), u) (fun _ _ => rfl) ?_
      have e0 : oo.1.1 = 0 := Classical.byContradiction (fun z => k_pos (ha.2.1 z).1 ((ha.2.1 z).2.1.symm.trans hc0))
      obtain ⟨_, hd, h15, hv⟩ := ha.2.2 e0
      have e10 := hd.2 10 (by omega) (by omega)
      have e11 := hd.2 11 (by omega) (by omega)
      have e6 := hd.2 6 (by omega) (by omega)
      have e7 := hd.2 7 (by omega) (by omega)
      have e8 := hd.2 8 (by omega) (by omega)
      have ec : ¬ (oo.1.2.2.2 70 10 < oo.1.2.2.2 70 6 * oo.1.2.2.2 70 7 ∧ oo.1.2.2.2 70 11 < oo.1.2.2.2 70 8) := fun z => absurd z.1 (by rw [← e10, ← e6, ← e7]; exact Int32.not_lt.mpr hc1)
      have eo : o_end s oo.1 = o_bad 6 s oo.1.2.2.2 := by unfold o_end; rw [if_pos e0, if_neg ec]
      rw [eo]
      have ea : t_ans (o_bad 6 s oo.1.2.2.2, oo.2) = (Int32.ofInt (-10)) - (g 70 15) := by unfold t_ans; rw [if_neg (show ¬ (o_bad 6 s oo.1.2.2.2, oo.2).1.1 = 0 from (by decide : ¬ (6 : Int32) = 0)), h15]; rfl
      rw [ea]
      refine ⟨_, rfl, fun a h => ?_, fun j hj => ?_, fun j hj => ?_, rfl, ?_, fun _ => ⟨?_, ?_, fun j hj => ?_⟩, fun z => absurd z (by decide : ¬ (6 : Int32) = 0)⟩
      · rw [q_up_ne (by omega), q_up_ne (by omega), q_up_ne (by omega)]
        exact ha.1.1 a (by omega) (by omega)
      · rw [q_up_ne (by decide), q_up_ne (by decide), q_up_ne (by decide)]
        exact congrFun (ha.1.1 71 (by decide) (by decide)) j
      · rw [q_up_at, if_neg (by omega), q_up_at, if_neg (by omega), q_up_at, if_neg (by omega)]
        exact ha.1.2 j (by omega)
      · rfl
      · rw [q_up_ne (by decide), q_up_ne (by decide), q_up_ne (by decide)]
        exact ha.1.1 71 (by decide) (by decide)
      · rw [q_up_ne (by decide), q_up_ne (by decide), q_up_ne (by decide)]
        exact ha.1.1 72 (by decide) (by decide)
      · rw [q_up_at, if_neg (by omega), q_up_at, if_neg (by omega), q_up_at, if_neg (by omega)]
        exact ha.1.2 j (by omega)
    · refine q_step 4 76 [(0, .ref 70), (1, .int v)] [.int (g 70 8), .int (g 70 11), .ref 70] g u (fun big n0 => sg_rx_22 big n0 g u v) ?_
      refine q_ic_ge rfl (fun (hc2 : (g 70 8) ≤ (g 70 11)) => ?_) (fun (hc2 : ¬ ((g 70 8) ≤ (g 70 11))) => ?_)
      · refine q_step 2 86 [(0, .ref 70), (1, .int v)] [.int (6 : Int32), .int (0 : Int32), .ref 70] g u (fun big n0 => sg_rx_20 big n0 g u v) ?_
        refine q_call (M2 := 154) (rest := []) (b_needs0 _ _ _ hc0) (fun _ _ => rfl) ?_
        refine q_step 5 98 [(0, .ref 70), (1, .int v)] [.int (6 : Int32)] (q_up (q_up (q_up g 70 18 (6 : Int32)) 70 19 (g 70 15)) 70 13 (0 : Int32)) u (fun big n0 => sg_rx_21 big n0 (q_up (q_up g 70 18 (6 : Int32)) 70 19 (g 70 15)) u v) ?_
        refine q_if_le rfl (fun hc3 => absurd (show (6 : Int32) ≤ 0 from hc3) (by decide)) (fun (hc3 : ¬ ((6 : Int32) ≤ 0)) => ?_)
        refine q_ret 5 (some (.int ((Int8.toInt32 (Int8.ofInt (-10))) - (g 70 15))), (q_up (q_up (q_up g 70 18 (6 : Int32)) 70 19 (g 70 15)) 70 13 (0 : Int32)), u) (fun _ _ => rfl) ?_
        have e0 : oo.1.1 = 0 := Classical.byContradiction (fun z => k_pos (ha.2.1 z).1 ((ha.2.1 z).2.1.symm.trans hc0))
        obtain ⟨_, hd, h15, hv⟩ := ha.2.2 e0
        have e10 := hd.2 10 (by omega) (by omega)
        have e11 := hd.2 11 (by omega) (by omega)
        have e6 := hd.2 6 (by omega) (by omega)
        have e7 := hd.2 7 (by omega) (by omega)
        have e8 := hd.2 8 (by omega) (by omega)
        have ec : ¬ (oo.1.2.2.2 70 10 < oo.1.2.2.2 70 6 * oo.1.2.2.2 70 7 ∧ oo.1.2.2.2 70 11 < oo.1.2.2.2 70 8) := fun z => absurd z.2 (by rw [← e11, ← e8]; exact Int32.not_lt.mpr hc2)
        have eo : o_end s oo.1 = o_bad 6 s oo.1.2.2.2 := by unfold o_end; rw [if_pos e0, if_neg ec]
        rw [eo]
        have ea : t_ans (o_bad 6 s oo.1.2.2.2, oo.2) = (Int32.ofInt (-10)) - (g 70 15) := by unfold t_ans; rw [if_neg (show ¬ (o_bad 6 s oo.1.2.2.2, oo.2).1.1 = 0 from (by decide : ¬ (6 : Int32) = 0)), h15]; rfl
        rw [ea]
        refine ⟨_, rfl, fun a h => ?_, fun j hj => ?_, fun j hj => ?_, rfl, ?_, fun _ => ⟨?_, ?_, fun j hj => ?_⟩, fun z => absurd z (by decide : ¬ (6 : Int32) = 0)⟩
        · rw [q_up_ne (by omega), q_up_ne (by omega), q_up_ne (by omega)]
          exact ha.1.1 a (by omega) (by omega)
        · rw [q_up_ne (by decide), q_up_ne (by decide), q_up_ne (by decide)]
          exact congrFun (ha.1.1 71 (by decide) (by decide)) j
        · rw [q_up_at, if_neg (by omega), q_up_at, if_neg (by omega), q_up_at, if_neg (by omega)]
          exact ha.1.2 j (by omega)
        · rfl
        · rw [q_up_ne (by decide), q_up_ne (by decide), q_up_ne (by decide)]
          exact ha.1.1 71 (by decide) (by decide)
        · rw [q_up_ne (by decide), q_up_ne (by decide), q_up_ne (by decide)]
          exact ha.1.1 72 (by decide) (by decide)
        · rw [q_up_at, if_neg (by omega), q_up_at, if_neg (by omega), q_up_at, if_neg (by omega)]
          exact ha.1.2 j (by omega)
      · refine q_step 3 86 [(0, .ref 70), (1, .int v)] [.int (6 : Int32), .int (1 : Int32), .ref 70] g u (fun big n0 => sg_rx_23 big n0 g u v) ?_
        refine q_call (M2 := 154) (rest := []) (b_needs1 _ _ _) (fun _ _ => rfl) ?_
        refine q_step 5 98 [(0, .ref 70), (1, .int v)] [.int (g 70 18)] (q_up g 70 13 (0 : Int32)) u (fun big n0 => sg_rx_21 big n0 g u v) ?_
        refine q_if_le rfl (fun (hc3 : (g 70 18) ≤ 0) => ?_) (fun hc3 => absurd (show (g 70 18) ≤ 0 from by rw [hc0]; decide) hc3)
        refine q_step 1 110 [(0, .ref 70), (1, .int v)] [.ref 70] (q_up g 70 13 (0 : Int32)) u (fun big n0 => sg_rx_24 big n0 (q_up g 70 13 (0 : Int32)) u v) ?_
        refine q_call (M2 := 147) (rest := []) (r_keepd _ _) (fun _ _ => rfl) ?_
        refine q_ret 2 (some (.int v), (s_kdr (q_up g 70 13 (0 : Int32))), u) (fun _ _ => rfl) ?_
        have e0 : oo.1.1 = 0 := Classical.byContradiction (fun z => k_pos (ha.2.1 z).1 ((ha.2.1 z).2.1.symm.trans hc0))
        obtain ⟨_, hd, h15, hv⟩ := ha.2.2 e0
        have e10 := hd.2 10 (by omega) (by omega)
        have e11 := hd.2 11 (by omega) (by omega)
        have e6 := hd.2 6 (by omega) (by omega)
        have e7 := hd.2 7 (by omega) (by omega)
        have e8 := hd.2 8 (by omega) (by omega)
        have ec : oo.1.2.2.2 70 10 < oo.1.2.2.2 70 6 * oo.1.2.2.2 70 7 ∧ oo.1.2.2.2 70 11 < oo.1.2.2.2 70 8 := by
          rw [← e10, ← e11, ← e6, ← e7, ← e8]
          exact ⟨Int32.not_le.mp hc1, Int32.not_le.mp hc2⟩
        have eo : o_end s oo.1 = oo.1 := by unfold o_end; rw [if_pos e0, if_pos ec]
        rw [eo]
        have ea : t_ans (oo.1, oo.2) = v := by unfold t_ans; rw [if_pos e0, hv]
        rw [ea]
        refine ⟨_, rfl, fun a h => ?_, fun j hj => ?_, fun j hj => ?_, ?_, ?_, fun z => absurd e0 z, fun _ => ⟨rfl, rfl, fun j hj => ?_, ?_, ?_, ?_⟩⟩
        · unfold s_kdr
          rw [q_up_ne (by omega), q_up_ne (by omega), q_up_ne (by omega), q_up_ne (by omega), q_up_ne (by omega)]
          funext i
          show (if a = 71 then _ else q_up g 70 13 0 a i) = _
          rw [if_neg (by omega), q_up_ne (by omega), ha.1.1 a (by omega) (by omega)]
        · unfold s_kdr
          rw [q_up_ne (by omega), q_up_ne (by omega), q_up_ne (by omega), q_up_ne (by omega), q_up_ne (by omega)]
          show (if (71 : Nat) = 71 then (if j < 44 then _ else q_up g 70 13 0 71 j) else _) = _
          rw [if_pos rfl, if_neg (by omega), q_up_ne (by omega), ha.1.1 71 (by decide) (by decide)]
        · unfold s_kdr
          rw [q_up_ne (by omega), q_up_ne (by omega), q_up_at, if_neg (by omega), q_up_at, if_neg (by omega), q_up_at, if_neg (by omega)]
          show q_up g 70 13 0 70 j = _
          rw [q_up_at, if_neg (by omega)]
          exact ha.1.2 j (by omega)
        · rfl
        · exact hc0.trans e0.symm
        · unfold s_kdr
          rw [q_up_ne (by omega), q_up_ne (by omega), q_up_ne (by omega), q_up_ne (by omega), q_up_ne (by omega)]
          show (if (71 : Nat) = 71 then (if j < 44 then q_up g 70 13 0 73 j else _) else _) = _
          rw [if_pos rfl, if_pos hj, q_up_ne (by decide)]
          exact hd.1 j hj
        · exact e6
        · exact e7
        · exact e8
  · refine q_step 5 98 [(0, .ref 70), (1, .int v)] [.int (g 70 18)] (q_up g 70 13 (0 : Int32)) u (fun big n0 => sg_rx_21 big n0 g u v) ?_
    refine q_if_le rfl (fun hc1 => absurd (show (g 70 18) ≤ 0 from hc1) (fun z => absurd z (Int32.not_le.mpr (by have e0 : ¬ oo.1.1 = 0 := fun y => hc0 (ha.2.2 y).1; rw [(ha.2.1 e0).2.1]; exact (ha.2.1 e0).1)))) (fun (hc1 : ¬ ((g 70 18) ≤ 0)) => ?_)
    refine q_ret 5 (some (.int ((Int8.toInt32 (Int8.ofInt (-10))) - (g 70 19))), (q_up g 70 13 (0 : Int32)), u) (fun _ _ => rfl) ?_
    have e0 : ¬ oo.1.1 = 0 := fun y => hc0 (ha.2.2 y).1
    obtain ⟨y1, y2, y3⟩ := ha.2.1 e0
    have eo : o_end s oo.1 = oo.1 := by unfold o_end; rw [if_neg e0]
    rw [eo]
    have ea : t_ans (oo.1, oo.2) = (Int32.ofInt (-10)) - (g 70 19) := by unfold t_ans; rw [if_neg e0, y3]
    rw [ea]
    refine ⟨_, rfl, fun a h => ?_, fun j hj => ?_, fun j hj => ?_, rfl, ?_, fun _ => ⟨?_, ?_, fun j hj => ?_⟩, fun z => absurd z e0⟩
    · rw [q_up_ne (by omega)]
      exact ha.1.1 a (by omega) (by omega)
    · rw [q_up_ne (by decide)]
      exact congrFun (ha.1.1 71 (by decide) (by decide)) j
    · rw [q_up_at, if_neg (by omega)]
      exact ha.1.2 j (by omega)
    · rw [q_up_at, if_neg (by decide)]
      exact y2
    · rw [q_up_ne (by decide)]
      exact ha.1.1 71 (by decide) (by decide)
    · rw [q_up_ne (by decide)]
      exact ha.1.1 72 (by decide) (by decide)
    · rw [q_up_at, if_neg (by omega)]
      exact ha.1.2 j (by omega)
theorem r_text {b : Nat → Int32} {s : Nat} (g : qM) (u : qW) (hb : k_b b s g) : ∃ R, q_BS 151 [.ref 70] g u R ∧ ∃ g', R = (some (.int (t_ans (o_text b s))), g', u) ∧ (∀ a, a < 70 ∨ 73 < a → g' a = g a) ∧ (∀ j, 44 ≤ j → g' 71 j = g 71 j) ∧ (∀ j, j < 2 ∨ j = 5 ∨ j = 12 ∨ 19 < j → g' 70 j = g 70 j) ∧ g' 70 13 = 0 ∧ g' 70 18 = (o_text b s).1.1 ∧ (¬ (o_text b s).1.1 = 0 → g' 71 = g 71 ∧ g' 72 = g 72 ∧ ∀ j, j < 6 → g' 70 j = g 70 j) ∧ ((o_text b s).1.1 = 0 → g' 72 0 = 0 ∧ g' 72 1 = 0 ∧ (∀ j, j < 44 → g' 71 j = (o_text b s).1.2.2.2 73 j) ∧ g' 70 2 = (o_text b s).1.2.2.2 70 6 ∧ g' 70 3 = (o_text b s).1.2.2.2 70 7 ∧ g' 70 4 = (o_text b s).1.2.2.2 70 8) := by
  refine q_bs (mm := m_151) rfl (Nat.le_of_ble_eq_true rfl) rfl ?_
  refine q_step 9 13 [(0, .ref 70), (1, .int (0 : Int32))] [.ref 70] (q_up (q_up g 70 18 (0 : Int32)) 70 14 (0 : Int32)) u (fun big n0 => sg_rx_25 big n0 g u) ?_
  have hR0 : k_fR g (q_up (q_up g 70 18 0) 70 14 0) := ((k_fR_rfl g).up (by omega)).up (by omega)
  have hR1 := hR0.trans (s_fdr_R (q_up (q_up g 70 18 0) 70 14 0))
  have hd1 := s_fdr_d (q_up (q_up g 70 18 0) 70 14 0)
  refine q_call (M2 := 146) (rest := []) (r_first _ _) (fun _ _ => rfl) ?_
  refine q_step 1 17 [(0, .ref 70), (1, .int (0 : Int32))] [.ref 70] (s_fdr (q_up (q_up g 70 18 (0 : Int32)) 70 14 (0 : Int32))) u (fun big n0 => sg_rx_26 big n0 (s_fdr (q_up (q_up g 70 18 (0 : Int32)) 70 14 (0 : Int32))) u) ?_
  obtain ⟨g1, q1, f1, l1⟩ := r_nextb (b := b) (p := 0) (s_fdr (q_up (q_up g 70 18 (0 : Int32)) 70 14 (0 : Int32))) u (hb.R hR1) rfl (Nat.zero_le s) rfl
  refine q_call (M2 := 152) (rest := []) (q1) (fun _ _ => rfl) ?_
  exact tx_l u (b := b) (s := s) (s + 1) 0 0 t_r0 g1 g (hR1.trans f1.R) ((hb.R hR1).fr f1) (Nat.zero_le s) l1 (fun _ => hd1.f70 f1) k_dn0 (by omega) (fun g' v hg => tx_e g' u v hg)
